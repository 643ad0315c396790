theorem dX0_init_0 : decode cX0_init 0 = .ok (.aload_n 0, 1) := by decide +kernel
theorem dX0_init_1 : decode cX0_init 1 = .ok (.invokespecial 3, 3) := by decide +kernel
theorem dX0_init_4 : decode cX0_init 4 = .ok (.return_, 1) := by decide +kernel
theorem dX0_hang_0 : decode cX0_hang 0 = .ok (.aload_n 0, 1) := by decide +kernel
theorem dX0_hang_1 : decode cX0_hang 1 = .ok (.iload_n 1, 1) := by decide +kernel
theorem dX0_hang_2 : decode cX0_hang 2 = .ok (.putfield 9, 3) := by decide +kernel
theorem dX0_hang_5 : decode cX0_hang 5 = .ok (.aload_n 0, 1) := by decide +kernel
theorem dX0_hang_6 : decode cX0_hang 6 = .ok (.iload_n 2, 1) := by decide +kernel
theorem dX0_hang_7 : decode cX0_hang 7 = .ok (.putfield 15, 3) := by decide +kernel
theorem dX0_hang_10 : decode cX0_hang 10 = .ok (.aload_n 0, 1) := by decide +kernel
theorem dX0_hang_11 : decode cX0_hang 11 = .ok (.iload_n 3, 1) := by decide +kernel
theorem dX0_hang_12 : decode cX0_hang 12 = .ok (.putfield 18, 3) := by decide +kernel
theorem dX0_hang_15 : decode cX0_hang 15 = .ok (.aload_n 0, 1) := by decide +kernel
theorem dX0_hang_16 : decode cX0_hang 16 = .ok (.iload 4, 2) := by decide +kernel
theorem dX0_hang_18 : decode cX0_hang 18 = .ok (.putfield 21, 3) := by decide +kernel
theorem dX0_hang_21 : decode cX0_hang 21 = .ok (.aload_n 0, 1) := by decide +kernel
theorem dX0_hang_22 : decode cX0_hang 22 = .ok (.iconst (-1), 1) := by decide +kernel
theorem dX0_hang_23 : decode cX0_hang 23 = .ok (.putfield 25, 3) := by decide +kernel
theorem dX0_hang_26 : decode cX0_hang 26 = .ok (.aload_n 0, 1) := by decide +kernel
theorem dX0_hang_27 : decode cX0_hang 27 = .ok (.iconst (-1), 1) := by decide +kernel
theorem dX0_hang_28 : decode cX0_hang 28 = .ok (.putfield 28, 3) := by decide +kernel
theorem dX0_hang_31 : decode cX0_hang 31 = .ok (.aload_n 0, 1) := by decide +kernel
theorem dX0_hang_32 : decode cX0_hang 32 = .ok (.invokevirtual 31, 3) := by decide +kernel
theorem dX0_hang_35 : decode cX0_hang 35 = .ok (.return_, 1) := by decide +kernel
theorem dX0_waitAgain_0 : decode cX0_waitAgain 0 = .ok (.aload_n 0, 1) := by decide +kernel
theorem dX0_waitAgain_1 : decode cX0_waitAgain 1 = .ok (.iconst 0, 1) := by decide +kernel
theorem dX0_waitAgain_2 : decode cX0_waitAgain 2 = .ok (.putfield 34, 3) := by decide +kernel
theorem dX0_waitAgain_5 : decode cX0_waitAgain 5 = .ok (.aload_n 0, 1) := by decide +kernel
theorem dX0_waitAgain_6 : decode cX0_waitAgain 6 = .ok (.iconst (-1), 1) := by decide +kernel
theorem dX0_waitAgain_7 : decode cX0_waitAgain 7 = .ok (.putfield 37, 3) := by decide +kernel
theorem dX0_waitAgain_10 : decode cX0_waitAgain 10 = .ok (.return_, 1) := by decide +kernel
theorem dX0_copyFrom_0 : decode cX0_copyFrom 0 = .ok (.aload_n 0, 1) := by decide +kernel
theorem dX0_copyFrom_1 : decode cX0_copyFrom 1 = .ok (.aload_n 1, 1) := by decide +kernel
theorem dX0_copyFrom_2 : decode cX0_copyFrom 2 = .ok (.getfield 9, 3) := by decide +kernel
theorem dX0_copyFrom_5 : decode cX0_copyFrom 5 = .ok (.putfield 9, 3) := by decide +kernel
theorem dX0_copyFrom_8 : decode cX0_copyFrom 8 = .ok (.aload_n 0, 1) := by decide +kernel
theorem dX0_copyFrom_9 : decode cX0_copyFrom 9 = .ok (.aload_n 1, 1) := by decide +kernel
theorem dX0_copyFrom_10 : decode cX0_copyFrom 10 = .ok (.getfield 15, 3) := by decide +kernel
theorem dX0_copyFrom_13 : decode cX0_copyFrom 13 = .ok (.putfield 15, 3) := by decide +kernel
theorem dX0_copyFrom_16 : decode cX0_copyFrom 16 = .ok (.aload_n 0, 1) := by decide +kernel
theorem dX0_copyFrom_17 : decode cX0_copyFrom 17 = .ok (.aload_n 1, 1) := by decide +kernel
theorem dX0_copyFrom_18 : decode cX0_copyFrom 18 = .ok (.getfield 18, 3) := by decide +kernel
theorem dX0_copyFrom_21 : decode cX0_copyFrom 21 = .ok (.putfield 18, 3) := by decide +kernel
theorem dX0_copyFrom_24 : decode cX0_copyFrom 24 = .ok (.aload_n 0, 1) := by decide +kernel
theorem dX0_copyFrom_25 : decode cX0_copyFrom 25 = .ok (.aload_n 1, 1) := by decide +kernel
theorem dX0_copyFrom_26 : decode cX0_copyFrom 26 = .ok (.getfield 21, 3) := by decide +kernel
theorem dX0_copyFrom_29 : decode cX0_copyFrom 29 = .ok (.putfield 21, 3) := by decide +kernel
theorem dX0_copyFrom_32 : decode cX0_copyFrom 32 = .ok (.aload_n 0, 1) := by decide +kernel
theorem dX0_copyFrom_33 : decode cX0_copyFrom 33 = .ok (.aload_n 1, 1) := by decide +kernel
theorem dX0_copyFrom_34 : decode cX0_copyFrom 34 = .ok (.getfield 34, 3) := by decide +kernel
theorem dX0_copyFrom_37 : decode cX0_copyFrom 37 = .ok (.putfield 34, 3) := by decide +kernel
theorem dX0_copyFrom_40 : decode cX0_copyFrom 40 = .ok (.aload_n 0, 1) := by decide +kernel
theorem dX0_copyFrom_41 : decode cX0_copyFrom 41 = .ok (.aload_n 1, 1) := by decide +kernel
theorem dX0_copyFrom_42 : decode cX0_copyFrom 42 = .ok (.getfield 37, 3) := by decide +kernel
theorem dX0_copyFrom_45 : decode cX0_copyFrom 45 = .ok (.putfield 37, 3) := by decide +kernel
theorem dX0_copyFrom_48 : decode cX0_copyFrom 48 = .ok (.aload_n 0, 1) := by decide +kernel
theorem dX0_copyFrom_49 : decode cX0_copyFrom 49 = .ok (.aload_n 1, 1) := by decide +kernel
theorem dX0_copyFrom_50 : decode cX0_copyFrom 50 = .ok (.getfield 25, 3) := by decide +kernel
theorem dX0_copyFrom_53 : decode cX0_copyFrom 53 = .ok (.putfield 25, 3) := by decide +kernel
theorem dX0_copyFrom_56 : decode cX0_copyFrom 56 = .ok (.aload_n 0, 1) := by decide +kernel
theorem dX0_copyFrom_57 : decode cX0_copyFrom 57 = .ok (.aload_n 1, 1) := by decide +kernel
theorem dX0_copyFrom_58 : decode cX0_copyFrom 58 = .ok (.getfield 28, 3) := by decide +kernel
theorem dX0_copyFrom_61 : decode cX0_copyFrom 61 = .ok (.putfield 28, 3) := by decide +kernel
theorem dX0_copyFrom_64 : decode cX0_copyFrom 64 = .ok (.return_, 1) := by decide +kernel
theorem dX0_rank_0 : decode cX0_rank 0 = .ok (.aload_n 0, 1) := by decide +kernel
theorem dX0_rank_1 : decode cX0_rank 1 = .ok (.getfield 21, 3) := by decide +kernel
theorem dX0_rank_4 : decode cX0_rank 4 = .ok (.ifCond .eq 12, 3) := by decide +kernel
theorem dX0_rank_7 : decode cX0_rank 7 = .ok (.aload_n 0, 1) := by decide +kernel
theorem dX0_rank_8 : decode cX0_rank 8 = .ok (.getfield 18, 3) := by decide +kernel
theorem dX0_rank_11 : decode cX0_rank 11 = .ok (.iconst 3, 1) := by decide +kernel
theorem dX0_rank_12 : decode cX0_rank 12 = .ok (.iadd, 1) := by decide +kernel
theorem dX0_rank_13 : decode cX0_rank 13 = .ok (.goto 7, 3) := by decide +kernel
theorem dX0_rank_16 : decode cX0_rank 16 = .ok (.aload_n 0, 1) := by decide +kernel
theorem dX0_rank_17 : decode cX0_rank 17 = .ok (.getfield 18, 3) := by decide +kernel
theorem dX0_rank_20 : decode cX0_rank 20 = .ok (.ireturn, 1) := by decide +kernel
theorem dX0_fact_0 : decode cX0_fact 0 = .ok (.iload_n 1, 1) := by decide +kernel
theorem dX0_fact_1 : decode cX0_fact 1 = .ok (.tableswitch 95 0 7 #[47, 52, 57, 62, 75, 80, 85, 90], 47) := by decide +kernel
theorem dX0_fact_48 : decode cX0_fact 48 = .ok (.aload_n 0, 1) := by decide +kernel
theorem dX0_fact_49 : decode cX0_fact 49 = .ok (.getfield 9, 3) := by decide +kernel
theorem dX0_fact_52 : decode cX0_fact 52 = .ok (.ireturn, 1) := by decide +kernel
theorem dX0_fact_53 : decode cX0_fact 53 = .ok (.aload_n 0, 1) := by decide +kernel
theorem dX0_fact_54 : decode cX0_fact 54 = .ok (.getfield 15, 3) := by decide +kernel
theorem dX0_fact_57 : decode cX0_fact 57 = .ok (.ireturn, 1) := by decide +kernel
theorem dX0_fact_58 : decode cX0_fact 58 = .ok (.aload_n 0, 1) := by decide +kernel
theorem dX0_fact_59 : decode cX0_fact 59 = .ok (.getfield 18, 3) := by decide +kernel
theorem dX0_fact_62 : decode cX0_fact 62 = .ok (.ireturn, 1) := by decide +kernel
theorem dX0_fact_63 : decode cX0_fact 63 = .ok (.aload_n 0, 1) := by decide +kernel
theorem dX0_fact_64 : decode cX0_fact 64 = .ok (.getfield 21, 3) := by decide +kernel
theorem dX0_fact_67 : decode cX0_fact 67 = .ok (.ifCond .eq 7, 3) := by decide +kernel
theorem dX0_fact_70 : decode cX0_fact 70 = .ok (.iconst 1, 1) := by decide +kernel
theorem dX0_fact_71 : decode cX0_fact 71 = .ok (.goto 4, 3) := by decide +kernel
theorem dX0_fact_74 : decode cX0_fact 74 = .ok (.iconst 0, 1) := by decide +kernel
theorem dX0_fact_75 : decode cX0_fact 75 = .ok (.ireturn, 1) := by decide +kernel
theorem dX0_fact_76 : decode cX0_fact 76 = .ok (.aload_n 0, 1) := by decide +kernel
theorem dX0_fact_77 : decode cX0_fact 77 = .ok (.invokevirtual 40, 3) := by decide +kernel
theorem dX0_fact_80 : decode cX0_fact 80 = .ok (.ireturn, 1) := by decide +kernel
theorem dX0_fact_81 : decode cX0_fact 81 = .ok (.aload_n 0, 1) := by decide +kernel
theorem dX0_fact_82 : decode cX0_fact 82 = .ok (.getfield 34, 3) := by decide +kernel
theorem dX0_fact_85 : decode cX0_fact 85 = .ok (.ireturn, 1) := by decide +kernel
theorem dX0_fact_86 : decode cX0_fact 86 = .ok (.aload_n 0, 1) := by decide +kernel
theorem dX0_fact_87 : decode cX0_fact 87 = .ok (.getfield 37, 3) := by decide +kernel
theorem dX0_fact_90 : decode cX0_fact 90 = .ok (.ireturn, 1) := by decide +kernel
theorem dX0_fact_91 : decode cX0_fact 91 = .ok (.aload_n 0, 1) := by decide +kernel
theorem dX0_fact_92 : decode cX0_fact 92 = .ok (.getfield 25, 3) := by decide +kernel
theorem dX0_fact_95 : decode cX0_fact 95 = .ok (.ireturn, 1) := by decide +kernel
theorem dX0_fact_96 : decode cX0_fact 96 = .ok (.aload_n 0, 1) := by decide +kernel
theorem dX0_fact_97 : decode cX0_fact 97 = .ok (.getfield 28, 3) := by decide +kernel
theorem dX0_fact_100 : decode cX0_fact 100 = .ok (.ireturn, 1) := by decide +kernel
theorem dX1_init_0 : decode cX1_init 0 = .ok (.aload_n 0, 1) := by decide +kernel
theorem dX1_init_1 : decode cX1_init 1 = .ok (.invokespecial 3, 3) := by decide +kernel
theorem dX1_init_4 : decode cX1_init 4 = .ok (.aload_n 0, 1) := by decide +kernel
theorem dX1_init_5 : decode cX1_init 5 = .ok (.bipush 6, 2) := by decide +kernel
theorem dX1_init_7 : decode cX1_init 7 = .ok (.newarray .int, 2) := by decide +kernel
theorem dX1_init_9 : decode cX1_init 9 = .ok (.putfield 9, 3) := by decide +kernel
theorem dX1_init_12 : decode cX1_init 12 = .ok (.aload_n 0, 1) := by decide +kernel
theorem dX1_init_13 : decode cX1_init 13 = .ok (.bipush 14, 2) := by decide +kernel
theorem dX1_init_15 : decode cX1_init 15 = .ok (.anewarray 15, 3) := by decide +kernel
theorem dX1_init_18 : decode cX1_init 18 = .ok (.putfield 17, 3) := by decide +kernel
theorem dX1_init_21 : decode cX1_init 21 = .ok (.iconst 0, 1) := by decide +kernel
theorem dX1_init_22 : decode cX1_init 22 = .ok (.istore_n 1, 1) := by decide +kernel
theorem dX1_init_23 : decode cX1_init 23 = .ok (.iload_n 1, 1) := by decide +kernel
theorem dX1_init_24 : decode cX1_init 24 = .ok (.aload_n 0, 1) := by decide +kernel
theorem dX1_init_25 : decode cX1_init 25 = .ok (.getfield 17, 3) := by decide +kernel
theorem dX1_init_28 : decode cX1_init 28 = .ok (.arraylength, 1) := by decide +kernel
theorem dX1_init_29 : decode cX1_init 29 = .ok (.if_icmp .ge 22, 3) := by decide +kernel
theorem dX1_init_32 : decode cX1_init 32 = .ok (.aload_n 0, 1) := by decide +kernel
theorem dX1_init_33 : decode cX1_init 33 = .ok (.getfield 17, 3) := by decide +kernel
theorem dX1_init_36 : decode cX1_init 36 = .ok (.iload_n 1, 1) := by decide +kernel
theorem dX1_init_37 : decode cX1_init 37 = .ok (.new 15, 3) := by decide +kernel
theorem dX1_init_40 : decode cX1_init 40 = .ok (.dup, 1) := by decide +kernel
theorem dX1_init_41 : decode cX1_init 41 = .ok (.invokespecial 21, 3) := by decide +kernel
theorem dX1_init_44 : decode cX1_init 44 = .ok (.aastore, 1) := by decide +kernel
theorem dX1_init_45 : decode cX1_init 45 = .ok (.iinc 1 1, 3) := by decide +kernel
theorem dX1_init_48 : decode cX1_init 48 = .ok (.goto (-25), 3) := by decide +kernel
theorem dX1_init_51 : decode cX1_init 51 = .ok (.aload_n 0, 1) := by decide +kernel
theorem dX1_init_52 : decode cX1_init 52 = .ok (.iconst 4, 1) := by decide +kernel
theorem dX1_init_53 : decode cX1_init 53 = .ok (.anewarray 22, 3) := by decide +kernel
theorem dX1_init_56 : decode cX1_init 56 = .ok (.putfield 24, 3) := by decide +kernel
theorem dX1_init_59 : decode cX1_init 59 = .ok (.iconst 0, 1) := by decide +kernel
theorem dX1_init_60 : decode cX1_init 60 = .ok (.istore_n 1, 1) := by decide +kernel
theorem dX1_init_61 : decode cX1_init 61 = .ok (.iload_n 1, 1) := by decide +kernel
theorem dX1_init_62 : decode cX1_init 62 = .ok (.aload_n 0, 1) := by decide +kernel
theorem dX1_init_63 : decode cX1_init 63 = .ok (.getfield 24, 3) := by decide +kernel
theorem dX1_init_66 : decode cX1_init 66 = .ok (.arraylength, 1) := by decide +kernel
theorem dX1_init_67 : decode cX1_init 67 = .ok (.if_icmp .ge 22, 3) := by decide +kernel
theorem dX1_init_70 : decode cX1_init 70 = .ok (.aload_n 0, 1) := by decide +kernel
theorem dX1_init_71 : decode cX1_init 71 = .ok (.getfield 24, 3) := by decide +kernel
theorem dX1_init_74 : decode cX1_init 74 = .ok (.iload_n 1, 1) := by decide +kernel
theorem dX1_init_75 : decode cX1_init 75 = .ok (.new 22, 3) := by decide +kernel
theorem dX1_init_78 : decode cX1_init 78 = .ok (.dup, 1) := by decide +kernel
theorem dX1_init_79 : decode cX1_init 79 = .ok (.invokespecial 28, 3) := by decide +kernel
theorem dX1_init_82 : decode cX1_init 82 = .ok (.aastore, 1) := by decide +kernel
theorem dX1_init_83 : decode cX1_init 83 = .ok (.iinc 1 1, 3) := by decide +kernel
theorem dX1_init_86 : decode cX1_init 86 = .ok (.goto (-25), 3) := by decide +kernel
theorem dX1_init_89 : decode cX1_init 89 = .ok (.aload_n 0, 1) := by decide +kernel
theorem dX1_init_90 : decode cX1_init 90 = .ok (.bipush 14, 2) := by decide +kernel
theorem dX1_init_92 : decode cX1_init 92 = .ok (.newarray .int, 2) := by decide +kernel
theorem dX1_init_94 : decode cX1_init 94 = .ok (.putfield 29, 3) := by decide +kernel
theorem dX1_init_97 : decode cX1_init 97 = .ok (.return_, 1) := by decide +kernel
theorem dX1_reset_0 : decode cX1_reset 0 = .ok (.aload_n 0, 1) := by decide +kernel
theorem dX1_reset_1 : decode cX1_reset 1 = .ok (.iload_n 1, 1) := by decide +kernel
theorem dX1_reset_2 : decode cX1_reset 2 = .ok (.putfield 32, 3) := by decide +kernel
theorem dX1_reset_5 : decode cX1_reset 5 = .ok (.aload_n 0, 1) := by decide +kernel
theorem dX1_reset_6 : decode cX1_reset 6 = .ok (.iconst 0, 1) := by decide +kernel
theorem dX1_reset_7 : decode cX1_reset 7 = .ok (.putfield 36, 3) := by decide +kernel
theorem dX1_reset_10 : decode cX1_reset 10 = .ok (.aload_n 0, 1) := by decide +kernel
theorem dX1_reset_11 : decode cX1_reset 11 = .ok (.iconst 0, 1) := by decide +kernel
theorem dX1_reset_12 : decode cX1_reset 12 = .ok (.putfield 39, 3) := by decide +kernel
theorem dX1_reset_15 : decode cX1_reset 15 = .ok (.aload_n 0, 1) := by decide +kernel
theorem dX1_reset_16 : decode cX1_reset 16 = .ok (.iconst 0, 1) := by decide +kernel
theorem dX1_reset_17 : decode cX1_reset 17 = .ok (.putfield 42, 3) := by decide +kernel
theorem dX1_reset_20 : decode cX1_reset 20 = .ok (.aload_n 0, 1) := by decide +kernel
theorem dX1_reset_21 : decode cX1_reset 21 = .ok (.iconst 0, 1) := by decide +kernel
theorem dX1_reset_22 : decode cX1_reset 22 = .ok (.putfield 45, 3) := by decide +kernel
theorem dX1_reset_25 : decode cX1_reset 25 = .ok (.aload_n 0, 1) := by decide +kernel
theorem dX1_reset_26 : decode cX1_reset 26 = .ok (.iconst 0, 1) := by decide +kernel
theorem dX1_reset_27 : decode cX1_reset 27 = .ok (.putfield 48, 3) := by decide +kernel
theorem dX1_reset_30 : decode cX1_reset 30 = .ok (.aload_n 0, 1) := by decide +kernel
theorem dX1_reset_31 : decode cX1_reset 31 = .ok (.iconst 0, 1) := by decide +kernel
theorem dX1_reset_32 : decode cX1_reset 32 = .ok (.putfield 51, 3) := by decide +kernel
theorem dX1_reset_35 : decode cX1_reset 35 = .ok (.iconst 0, 1) := by decide +kernel
theorem dX1_reset_36 : decode cX1_reset 36 = .ok (.istore_n 2, 1) := by decide +kernel
theorem dX1_reset_37 : decode cX1_reset 37 = .ok (.iload_n 2, 1) := by decide +kernel
theorem dX1_reset_38 : decode cX1_reset 38 = .ok (.aload_n 0, 1) := by decide +kernel
theorem dX1_reset_39 : decode cX1_reset 39 = .ok (.getfield 9, 3) := by decide +kernel
theorem dX1_reset_42 : decode cX1_reset 42 = .ok (.arraylength, 1) := by decide +kernel
theorem dX1_reset_43 : decode cX1_reset 43 = .ok (.if_icmp .ge 16, 3) := by decide +kernel
theorem dX1_reset_46 : decode cX1_reset 46 = .ok (.aload_n 0, 1) := by decide +kernel
theorem dX1_reset_47 : decode cX1_reset 47 = .ok (.getfield 9, 3) := by decide +kernel
theorem dX1_reset_50 : decode cX1_reset 50 = .ok (.iload_n 2, 1) := by decide +kernel
theorem dX1_reset_51 : decode cX1_reset 51 = .ok (.iconst 4, 1) := by decide +kernel
theorem dX1_reset_52 : decode cX1_reset 52 = .ok (.iastore, 1) := by decide +kernel
theorem dX1_reset_53 : decode cX1_reset 53 = .ok (.iinc 2 1, 3) := by decide +kernel
theorem dX1_reset_56 : decode cX1_reset 56 = .ok (.goto (-19), 3) := by decide +kernel
theorem dX1_reset_59 : decode cX1_reset 59 = .ok (.return_, 1) := by decide +kernel
theorem dX1_copyFrom_0 : decode cX1_copyFrom 0 = .ok (.aload_n 0, 1) := by decide +kernel
theorem dX1_copyFrom_1 : decode cX1_copyFrom 1 = .ok (.aload_n 1, 1) := by decide +kernel
theorem dX1_copyFrom_2 : decode cX1_copyFrom 2 = .ok (.getfield 32, 3) := by decide +kernel
theorem dX1_copyFrom_5 : decode cX1_copyFrom 5 = .ok (.putfield 32, 3) := by decide +kernel
theorem dX1_copyFrom_8 : decode cX1_copyFrom 8 = .ok (.aload_n 0, 1) := by decide +kernel
theorem dX1_copyFrom_9 : decode cX1_copyFrom 9 = .ok (.aload_n 1, 1) := by decide +kernel
theorem dX1_copyFrom_10 : decode cX1_copyFrom 10 = .ok (.getfield 36, 3) := by decide +kernel
theorem dX1_copyFrom_13 : decode cX1_copyFrom 13 = .ok (.putfield 36, 3) := by decide +kernel
theorem dX1_copyFrom_16 : decode cX1_copyFrom 16 = .ok (.aload_n 0, 1) := by decide +kernel
theorem dX1_copyFrom_17 : decode cX1_copyFrom 17 = .ok (.aload_n 1, 1) := by decide +kernel
theorem dX1_copyFrom_18 : decode cX1_copyFrom 18 = .ok (.getfield 39, 3) := by decide +kernel
theorem dX1_copyFrom_21 : decode cX1_copyFrom 21 = .ok (.putfield 39, 3) := by decide +kernel
theorem dX1_copyFrom_24 : decode cX1_copyFrom 24 = .ok (.aload_n 0, 1) := by decide +kernel
theorem dX1_copyFrom_25 : decode cX1_copyFrom 25 = .ok (.aload_n 1, 1) := by decide +kernel
theorem dX1_copyFrom_26 : decode cX1_copyFrom 26 = .ok (.getfield 42, 3) := by decide +kernel
theorem dX1_copyFrom_29 : decode cX1_copyFrom 29 = .ok (.putfield 42, 3) := by decide +kernel
theorem dX1_copyFrom_32 : decode cX1_copyFrom 32 = .ok (.aload_n 0, 1) := by decide +kernel
theorem dX1_copyFrom_33 : decode cX1_copyFrom 33 = .ok (.aload_n 1, 1) := by decide +kernel
theorem dX1_copyFrom_34 : decode cX1_copyFrom 34 = .ok (.getfield 45, 3) := by decide +kernel
theorem dX1_copyFrom_37 : decode cX1_copyFrom 37 = .ok (.putfield 45, 3) := by decide +kernel
theorem dX1_copyFrom_40 : decode cX1_copyFrom 40 = .ok (.aload_n 0, 1) := by decide +kernel
theorem dX1_copyFrom_41 : decode cX1_copyFrom 41 = .ok (.aload_n 1, 1) := by decide +kernel
theorem dX1_copyFrom_42 : decode cX1_copyFrom 42 = .ok (.getfield 48, 3) := by decide +kernel
theorem dX1_copyFrom_45 : decode cX1_copyFrom 45 = .ok (.putfield 48, 3) := by decide +kernel
theorem dX1_copyFrom_48 : decode cX1_copyFrom 48 = .ok (.aload_n 0, 1) := by decide +kernel
theorem dX1_copyFrom_49 : decode cX1_copyFrom 49 = .ok (.aload_n 1, 1) := by decide +kernel
theorem dX1_copyFrom_50 : decode cX1_copyFrom 50 = .ok (.getfield 51, 3) := by decide +kernel
theorem dX1_copyFrom_53 : decode cX1_copyFrom 53 = .ok (.putfield 51, 3) := by decide +kernel
theorem dX1_copyFrom_56 : decode cX1_copyFrom 56 = .ok (.iconst 0, 1) := by decide +kernel
theorem dX1_copyFrom_57 : decode cX1_copyFrom 57 = .ok (.istore_n 2, 1) := by decide +kernel
theorem dX1_copyFrom_58 : decode cX1_copyFrom 58 = .ok (.iload_n 2, 1) := by decide +kernel
theorem dX1_copyFrom_59 : decode cX1_copyFrom 59 = .ok (.aload_n 0, 1) := by decide +kernel
theorem dX1_copyFrom_60 : decode cX1_copyFrom 60 = .ok (.getfield 9, 3) := by decide +kernel
theorem dX1_copyFrom_63 : decode cX1_copyFrom 63 = .ok (.arraylength, 1) := by decide +kernel
theorem dX1_copyFrom_64 : decode cX1_copyFrom 64 = .ok (.if_icmp .ge 30, 3) := by decide +kernel
theorem dX1_copyFrom_67 : decode cX1_copyFrom 67 = .ok (.iload_n 2, 1) := by decide +kernel
theorem dX1_copyFrom_68 : decode cX1_copyFrom 68 = .ok (.aload_n 1, 1) := by decide +kernel
theorem dX1_copyFrom_69 : decode cX1_copyFrom 69 = .ok (.getfield 9, 3) := by decide +kernel
theorem dX1_copyFrom_72 : decode cX1_copyFrom 72 = .ok (.arraylength, 1) := by decide +kernel
theorem dX1_copyFrom_73 : decode cX1_copyFrom 73 = .ok (.if_icmp .ge 21, 3) := by decide +kernel
theorem dX1_copyFrom_76 : decode cX1_copyFrom 76 = .ok (.aload_n 0, 1) := by decide +kernel
theorem dX1_copyFrom_77 : decode cX1_copyFrom 77 = .ok (.getfield 9, 3) := by decide +kernel
theorem dX1_copyFrom_80 : decode cX1_copyFrom 80 = .ok (.iload_n 2, 1) := by decide +kernel
theorem dX1_copyFrom_81 : decode cX1_copyFrom 81 = .ok (.aload_n 1, 1) := by decide +kernel
theorem dX1_copyFrom_82 : decode cX1_copyFrom 82 = .ok (.getfield 9, 3) := by decide +kernel
theorem dX1_copyFrom_85 : decode cX1_copyFrom 85 = .ok (.iload_n 2, 1) := by decide +kernel
theorem dX1_copyFrom_86 : decode cX1_copyFrom 86 = .ok (.iaload, 1) := by decide +kernel
theorem dX1_copyFrom_87 : decode cX1_copyFrom 87 = .ok (.iastore, 1) := by decide +kernel
theorem dX1_copyFrom_88 : decode cX1_copyFrom 88 = .ok (.iinc 2 1, 3) := by decide +kernel
theorem dX1_copyFrom_91 : decode cX1_copyFrom 91 = .ok (.goto (-33), 3) := by decide +kernel
theorem dX1_copyFrom_94 : decode cX1_copyFrom 94 = .ok (.iconst 0, 1) := by decide +kernel
theorem dX1_copyFrom_95 : decode cX1_copyFrom 95 = .ok (.istore_n 2, 1) := by decide +kernel
theorem dX1_copyFrom_96 : decode cX1_copyFrom 96 = .ok (.iload_n 2, 1) := by decide +kernel
theorem dX1_copyFrom_97 : decode cX1_copyFrom 97 = .ok (.aload_n 0, 1) := by decide +kernel
theorem dX1_copyFrom_98 : decode cX1_copyFrom 98 = .ok (.getfield 29, 3) := by decide +kernel
theorem dX1_copyFrom_101 : decode cX1_copyFrom 101 = .ok (.arraylength, 1) := by decide +kernel
theorem dX1_copyFrom_102 : decode cX1_copyFrom 102 = .ok (.if_icmp .ge 30, 3) := by decide +kernel
theorem dX1_copyFrom_105 : decode cX1_copyFrom 105 = .ok (.iload_n 2, 1) := by decide +kernel
theorem dX1_copyFrom_106 : decode cX1_copyFrom 106 = .ok (.aload_n 1, 1) := by decide +kernel
theorem dX1_copyFrom_107 : decode cX1_copyFrom 107 = .ok (.getfield 29, 3) := by decide +kernel
theorem dX1_copyFrom_110 : decode cX1_copyFrom 110 = .ok (.arraylength, 1) := by decide +kernel
theorem dX1_copyFrom_111 : decode cX1_copyFrom 111 = .ok (.if_icmp .ge 21, 3) := by decide +kernel
theorem dX1_copyFrom_114 : decode cX1_copyFrom 114 = .ok (.aload_n 0, 1) := by decide +kernel
theorem dX1_copyFrom_115 : decode cX1_copyFrom 115 = .ok (.getfield 29, 3) := by decide +kernel
theorem dX1_copyFrom_118 : decode cX1_copyFrom 118 = .ok (.iload_n 2, 1) := by decide +kernel
theorem dX1_copyFrom_119 : decode cX1_copyFrom 119 = .ok (.aload_n 1, 1) := by decide +kernel
theorem dX1_copyFrom_120 : decode cX1_copyFrom 120 = .ok (.getfield 29, 3) := by decide +kernel
theorem dX1_copyFrom_123 : decode cX1_copyFrom 123 = .ok (.iload_n 2, 1) := by decide +kernel
theorem dX1_copyFrom_124 : decode cX1_copyFrom 124 = .ok (.iaload, 1) := by decide +kernel
theorem dX1_copyFrom_125 : decode cX1_copyFrom 125 = .ok (.iastore, 1) := by decide +kernel
theorem dX1_copyFrom_126 : decode cX1_copyFrom 126 = .ok (.iinc 2 1, 3) := by decide +kernel
theorem dX1_copyFrom_129 : decode cX1_copyFrom 129 = .ok (.goto (-33), 3) := by decide +kernel
theorem dX1_copyFrom_132 : decode cX1_copyFrom 132 = .ok (.iconst 0, 1) := by decide +kernel
theorem dX1_copyFrom_133 : decode cX1_copyFrom 133 = .ok (.istore_n 2, 1) := by decide +kernel
theorem dX1_copyFrom_134 : decode cX1_copyFrom 134 = .ok (.iload_n 2, 1) := by decide +kernel
theorem dX1_copyFrom_135 : decode cX1_copyFrom 135 = .ok (.aload_n 0, 1) := by decide +kernel
theorem dX1_copyFrom_136 : decode cX1_copyFrom 136 = .ok (.getfield 39, 3) := by decide +kernel
theorem dX1_copyFrom_139 : decode cX1_copyFrom 139 = .ok (.if_icmp .ge 37, 3) := by decide +kernel
theorem dX1_copyFrom_142 : decode cX1_copyFrom 142 = .ok (.aload_n 0, 1) := by decide +kernel
theorem dX1_copyFrom_143 : decode cX1_copyFrom 143 = .ok (.iload_n 2, 1) := by decide +kernel
theorem dX1_copyFrom_144 : decode cX1_copyFrom 144 = .ok (.invokevirtual 54, 3) := by decide +kernel
theorem dX1_copyFrom_147 : decode cX1_copyFrom 147 = .ok (.astore_n 3, 1) := by decide +kernel
theorem dX1_copyFrom_148 : decode cX1_copyFrom 148 = .ok (.aload_n 1, 1) := by decide +kernel
theorem dX1_copyFrom_149 : decode cX1_copyFrom 149 = .ok (.iload_n 2, 1) := by decide +kernel
theorem dX1_copyFrom_150 : decode cX1_copyFrom 150 = .ok (.invokevirtual 54, 3) := by decide +kernel
theorem dX1_copyFrom_153 : decode cX1_copyFrom 153 = .ok (.astore 4, 2) := by decide +kernel
theorem dX1_copyFrom_155 : decode cX1_copyFrom 155 = .ok (.aload_n 3, 1) := by decide +kernel
theorem dX1_copyFrom_156 : decode cX1_copyFrom 156 = .ok (.ifnull 14, 3) := by decide +kernel
theorem dX1_copyFrom_159 : decode cX1_copyFrom 159 = .ok (.aload 4, 2) := by decide +kernel
theorem dX1_copyFrom_161 : decode cX1_copyFrom 161 = .ok (.ifnull 9, 3) := by decide +kernel
theorem dX1_copyFrom_164 : decode cX1_copyFrom 164 = .ok (.aload_n 3, 1) := by decide +kernel
theorem dX1_copyFrom_165 : decode cX1_copyFrom 165 = .ok (.aload 4, 2) := by decide +kernel
theorem dX1_copyFrom_167 : decode cX1_copyFrom 167 = .ok (.invokevirtual 58, 3) := by decide +kernel
theorem dX1_copyFrom_170 : decode cX1_copyFrom 170 = .ok (.iinc 2 1, 3) := by decide +kernel
theorem dX1_copyFrom_173 : decode cX1_copyFrom 173 = .ok (.goto (-39), 3) := by decide +kernel
theorem dX1_copyFrom_176 : decode cX1_copyFrom 176 = .ok (.iconst 0, 1) := by decide +kernel
theorem dX1_copyFrom_177 : decode cX1_copyFrom 177 = .ok (.istore_n 2, 1) := by decide +kernel
theorem dX1_copyFrom_178 : decode cX1_copyFrom 178 = .ok (.iload_n 2, 1) := by decide +kernel
theorem dX1_copyFrom_179 : decode cX1_copyFrom 179 = .ok (.aload_n 0, 1) := by decide +kernel
theorem dX1_copyFrom_180 : decode cX1_copyFrom 180 = .ok (.getfield 42, 3) := by decide +kernel
theorem dX1_copyFrom_183 : decode cX1_copyFrom 183 = .ok (.if_icmp .ge 37, 3) := by decide +kernel
theorem dX1_copyFrom_186 : decode cX1_copyFrom 186 = .ok (.aload_n 0, 1) := by decide +kernel
theorem dX1_copyFrom_187 : decode cX1_copyFrom 187 = .ok (.iload_n 2, 1) := by decide +kernel
theorem dX1_copyFrom_188 : decode cX1_copyFrom 188 = .ok (.invokevirtual 62, 3) := by decide +kernel
theorem dX1_copyFrom_191 : decode cX1_copyFrom 191 = .ok (.astore_n 3, 1) := by decide +kernel
theorem dX1_copyFrom_192 : decode cX1_copyFrom 192 = .ok (.aload_n 1, 1) := by decide +kernel
theorem dX1_copyFrom_193 : decode cX1_copyFrom 193 = .ok (.iload_n 2, 1) := by decide +kernel
theorem dX1_copyFrom_194 : decode cX1_copyFrom 194 = .ok (.invokevirtual 62, 3) := by decide +kernel
theorem dX1_copyFrom_197 : decode cX1_copyFrom 197 = .ok (.astore 4, 2) := by decide +kernel
theorem dX1_copyFrom_199 : decode cX1_copyFrom 199 = .ok (.aload_n 3, 1) := by decide +kernel
theorem dX1_copyFrom_200 : decode cX1_copyFrom 200 = .ok (.ifnull 14, 3) := by decide +kernel
theorem dX1_copyFrom_203 : decode cX1_copyFrom 203 = .ok (.aload 4, 2) := by decide +kernel
theorem dX1_copyFrom_205 : decode cX1_copyFrom 205 = .ok (.ifnull 9, 3) := by decide +kernel
theorem dX1_copyFrom_208 : decode cX1_copyFrom 208 = .ok (.aload_n 3, 1) := by decide +kernel
theorem dX1_copyFrom_209 : decode cX1_copyFrom 209 = .ok (.aload 4, 2) := by decide +kernel
theorem dX1_copyFrom_211 : decode cX1_copyFrom 211 = .ok (.invokevirtual 66, 3) := by decide +kernel
theorem dX1_copyFrom_214 : decode cX1_copyFrom 214 = .ok (.iinc 2 1, 3) := by decide +kernel
theorem dX1_copyFrom_217 : decode cX1_copyFrom 217 = .ok (.goto (-39), 3) := by decide +kernel
theorem dX1_copyFrom_220 : decode cX1_copyFrom 220 = .ok (.return_, 1) := by decide +kernel
theorem dX1_hasSpan_0 : decode cX1_hasSpan 0 = .ok (.iload_n 1, 1) := by decide +kernel
theorem dX1_hasSpan_1 : decode cX1_hasSpan 1 = .ok (.ifCond .lt 15, 3) := by decide +kernel
theorem dX1_hasSpan_4 : decode cX1_hasSpan 4 = .ok (.iload_n 1, 1) := by decide +kernel
theorem dX1_hasSpan_5 : decode cX1_hasSpan 5 = .ok (.aload_n 0, 1) := by decide +kernel
theorem dX1_hasSpan_6 : decode cX1_hasSpan 6 = .ok (.getfield 32, 3) := by decide +kernel
theorem dX1_hasSpan_9 : decode cX1_hasSpan 9 = .ok (.if_icmp .ge 7, 3) := by decide +kernel
theorem dX1_hasSpan_12 : decode cX1_hasSpan 12 = .ok (.iconst 1, 1) := by decide +kernel
theorem dX1_hasSpan_13 : decode cX1_hasSpan 13 = .ok (.goto 4, 3) := by decide +kernel
theorem dX1_hasSpan_16 : decode cX1_hasSpan 16 = .ok (.iconst 0, 1) := by decide +kernel
theorem dX1_hasSpan_17 : decode cX1_hasSpan 17 = .ok (.ireturn, 1) := by decide +kernel
theorem dX1_hasWay_0 : decode cX1_hasWay 0 = .ok (.iload_n 1, 1) := by decide +kernel
theorem dX1_hasWay_1 : decode cX1_hasWay 1 = .ok (.ifCond .lt 17, 3) := by decide +kernel
theorem dX1_hasWay_4 : decode cX1_hasWay 4 = .ok (.iload_n 1, 1) := by decide +kernel
theorem dX1_hasWay_5 : decode cX1_hasWay 5 = .ok (.aload_n 0, 1) := by decide +kernel
theorem dX1_hasWay_6 : decode cX1_hasWay 6 = .ok (.getfield 32, 3) := by decide +kernel
theorem dX1_hasWay_9 : decode cX1_hasWay 9 = .ok (.iconst 1, 1) := by decide +kernel
theorem dX1_hasWay_10 : decode cX1_hasWay 10 = .ok (.isub, 1) := by decide +kernel
theorem dX1_hasWay_11 : decode cX1_hasWay 11 = .ok (.if_icmp .ge 7, 3) := by decide +kernel
theorem dX1_hasWay_14 : decode cX1_hasWay 14 = .ok (.iconst 1, 1) := by decide +kernel
theorem dX1_hasWay_15 : decode cX1_hasWay 15 = .ok (.goto 4, 3) := by decide +kernel
theorem dX1_hasWay_18 : decode cX1_hasWay 18 = .ok (.iconst 0, 1) := by decide +kernel
theorem dX1_hasWay_19 : decode cX1_hasWay 19 = .ok (.ireturn, 1) := by decide +kernel
theorem dX1_chairAt_0 : decode cX1_chairAt 0 = .ok (.iload_n 1, 1) := by decide +kernel
theorem dX1_chairAt_1 : decode cX1_chairAt 1 = .ok (.ifCond .lt 29, 3) := by decide +kernel
theorem dX1_chairAt_4 : decode cX1_chairAt 4 = .ok (.iload_n 1, 1) := by decide +kernel
theorem dX1_chairAt_5 : decode cX1_chairAt 5 = .ok (.aload_n 0, 1) := by decide +kernel
theorem dX1_chairAt_6 : decode cX1_chairAt 6 = .ok (.getfield 39, 3) := by decide +kernel
theorem dX1_chairAt_9 : decode cX1_chairAt 9 = .ok (.if_icmp .ge 21, 3) := by decide +kernel
theorem dX1_chairAt_12 : decode cX1_chairAt 12 = .ok (.iload_n 1, 1) := by decide +kernel
theorem dX1_chairAt_13 : decode cX1_chairAt 13 = .ok (.aload_n 0, 1) := by decide +kernel
theorem dX1_chairAt_14 : decode cX1_chairAt 14 = .ok (.getfield 17, 3) := by decide +kernel
theorem dX1_chairAt_17 : decode cX1_chairAt 17 = .ok (.arraylength, 1) := by decide +kernel
theorem dX1_chairAt_18 : decode cX1_chairAt 18 = .ok (.if_icmp .ge 12, 3) := by decide +kernel
theorem dX1_chairAt_21 : decode cX1_chairAt 21 = .ok (.aload_n 0, 1) := by decide +kernel
theorem dX1_chairAt_22 : decode cX1_chairAt 22 = .ok (.getfield 17, 3) := by decide +kernel
theorem dX1_chairAt_25 : decode cX1_chairAt 25 = .ok (.iload_n 1, 1) := by decide +kernel
theorem dX1_chairAt_26 : decode cX1_chairAt 26 = .ok (.aaload, 1) := by decide +kernel
theorem dX1_chairAt_27 : decode cX1_chairAt 27 = .ok (.goto 4, 3) := by decide +kernel
theorem dX1_chairAt_30 : decode cX1_chairAt 30 = .ok (.aconst_null, 1) := by decide +kernel
theorem dX1_chairAt_31 : decode cX1_chairAt 31 = .ok (.areturn, 1) := by decide +kernel
theorem dX1_teamAt_0 : decode cX1_teamAt 0 = .ok (.iload_n 1, 1) := by decide +kernel
theorem dX1_teamAt_1 : decode cX1_teamAt 1 = .ok (.ifCond .lt 29, 3) := by decide +kernel
theorem dX1_teamAt_4 : decode cX1_teamAt 4 = .ok (.iload_n 1, 1) := by decide +kernel
theorem dX1_teamAt_5 : decode cX1_teamAt 5 = .ok (.aload_n 0, 1) := by decide +kernel
theorem dX1_teamAt_6 : decode cX1_teamAt 6 = .ok (.getfield 42, 3) := by decide +kernel
theorem dX1_teamAt_9 : decode cX1_teamAt 9 = .ok (.if_icmp .ge 21, 3) := by decide +kernel
theorem dX1_teamAt_12 : decode cX1_teamAt 12 = .ok (.iload_n 1, 1) := by decide +kernel
theorem dX1_teamAt_13 : decode cX1_teamAt 13 = .ok (.aload_n 0, 1) := by decide +kernel
theorem dX1_teamAt_14 : decode cX1_teamAt 14 = .ok (.getfield 24, 3) := by decide +kernel
theorem dX1_teamAt_17 : decode cX1_teamAt 17 = .ok (.arraylength, 1) := by decide +kernel
theorem dX1_teamAt_18 : decode cX1_teamAt 18 = .ok (.if_icmp .ge 12, 3) := by decide +kernel
theorem dX1_teamAt_21 : decode cX1_teamAt 21 = .ok (.aload_n 0, 1) := by decide +kernel
theorem dX1_teamAt_22 : decode cX1_teamAt 22 = .ok (.getfield 24, 3) := by decide +kernel
theorem dX1_teamAt_25 : decode cX1_teamAt 25 = .ok (.iload_n 1, 1) := by decide +kernel
theorem dX1_teamAt_26 : decode cX1_teamAt 26 = .ok (.aaload, 1) := by decide +kernel
theorem dX1_teamAt_27 : decode cX1_teamAt 27 = .ok (.goto 4, 3) := by decide +kernel
theorem dX1_teamAt_30 : decode cX1_teamAt 30 = .ok (.aconst_null, 1) := by decide +kernel
theorem dX1_teamAt_31 : decode cX1_teamAt 31 = .ok (.areturn, 1) := by decide +kernel
theorem dX1_journalAt_0 : decode cX1_journalAt 0 = .ok (.iload_n 1, 1) := by decide +kernel
theorem dX1_journalAt_1 : decode cX1_journalAt 1 = .ok (.ifCond .lt 29, 3) := by decide +kernel
theorem dX1_journalAt_4 : decode cX1_journalAt 4 = .ok (.iload_n 1, 1) := by decide +kernel
theorem dX1_journalAt_5 : decode cX1_journalAt 5 = .ok (.aload_n 0, 1) := by decide +kernel
theorem dX1_journalAt_6 : decode cX1_journalAt 6 = .ok (.getfield 45, 3) := by decide +kernel
theorem dX1_journalAt_9 : decode cX1_journalAt 9 = .ok (.if_icmp .ge 21, 3) := by decide +kernel
theorem dX1_journalAt_12 : decode cX1_journalAt 12 = .ok (.iload_n 1, 1) := by decide +kernel
theorem dX1_journalAt_13 : decode cX1_journalAt 13 = .ok (.aload_n 0, 1) := by decide +kernel
theorem dX1_journalAt_14 : decode cX1_journalAt 14 = .ok (.getfield 29, 3) := by decide +kernel
theorem dX1_journalAt_17 : decode cX1_journalAt 17 = .ok (.arraylength, 1) := by decide +kernel
theorem dX1_journalAt_18 : decode cX1_journalAt 18 = .ok (.if_icmp .ge 12, 3) := by decide +kernel
theorem dX1_journalAt_21 : decode cX1_journalAt 21 = .ok (.aload_n 0, 1) := by decide +kernel
theorem dX1_journalAt_22 : decode cX1_journalAt 22 = .ok (.getfield 29, 3) := by decide +kernel
theorem dX1_journalAt_25 : decode cX1_journalAt 25 = .ok (.iload_n 1, 1) := by decide +kernel
theorem dX1_journalAt_26 : decode cX1_journalAt 26 = .ok (.iaload, 1) := by decide +kernel
theorem dX1_journalAt_27 : decode cX1_journalAt 27 = .ok (.goto 4, 3) := by decide +kernel
theorem dX1_journalAt_30 : decode cX1_journalAt 30 = .ok (.iconst (-1), 1) := by decide +kernel
theorem dX1_journalAt_31 : decode cX1_journalAt 31 = .ok (.ireturn, 1) := by decide +kernel
theorem dX1_wayBehind_0 : decode cX1_wayBehind 0 = .ok (.iload_n 1, 1) := by decide +kernel
theorem dX1_wayBehind_1 : decode cX1_wayBehind 1 = .ok (.ifCond .lt 21, 3) := by decide +kernel
theorem dX1_wayBehind_4 : decode cX1_wayBehind 4 = .ok (.iload_n 1, 1) := by decide +kernel
theorem dX1_wayBehind_5 : decode cX1_wayBehind 5 = .ok (.aload_n 0, 1) := by decide +kernel
theorem dX1_wayBehind_6 : decode cX1_wayBehind 6 = .ok (.getfield 9, 3) := by decide +kernel
theorem dX1_wayBehind_9 : decode cX1_wayBehind 9 = .ok (.arraylength, 1) := by decide +kernel
theorem dX1_wayBehind_10 : decode cX1_wayBehind 10 = .ok (.if_icmp .ge 12, 3) := by decide +kernel
theorem dX1_wayBehind_13 : decode cX1_wayBehind 13 = .ok (.aload_n 0, 1) := by decide +kernel
theorem dX1_wayBehind_14 : decode cX1_wayBehind 14 = .ok (.getfield 9, 3) := by decide +kernel
theorem dX1_wayBehind_17 : decode cX1_wayBehind 17 = .ok (.iload_n 1, 1) := by decide +kernel
theorem dX1_wayBehind_18 : decode cX1_wayBehind 18 = .ok (.iaload, 1) := by decide +kernel
theorem dX1_wayBehind_19 : decode cX1_wayBehind 19 = .ok (.goto 4, 3) := by decide +kernel
theorem dX1_wayBehind_22 : decode cX1_wayBehind 22 = .ok (.iconst 0, 1) := by decide +kernel
theorem dX1_wayBehind_23 : decode cX1_wayBehind 23 = .ok (.ireturn, 1) := by decide +kernel
theorem dX1_changeWay_0 : decode cX1_changeWay 0 = .ok (.iload_n 1, 1) := by decide +kernel
theorem dX1_changeWay_1 : decode cX1_changeWay 1 = .ok (.ifCond .lt 19, 3) := by decide +kernel
theorem dX1_changeWay_4 : decode cX1_changeWay 4 = .ok (.iload_n 1, 1) := by decide +kernel
theorem dX1_changeWay_5 : decode cX1_changeWay 5 = .ok (.aload_n 0, 1) := by decide +kernel
theorem dX1_changeWay_6 : decode cX1_changeWay 6 = .ok (.getfield 9, 3) := by decide +kernel
theorem dX1_changeWay_9 : decode cX1_changeWay 9 = .ok (.arraylength, 1) := by decide +kernel
theorem dX1_changeWay_10 : decode cX1_changeWay 10 = .ok (.if_icmp .ge 10, 3) := by decide +kernel
theorem dX1_changeWay_13 : decode cX1_changeWay 13 = .ok (.aload_n 0, 1) := by decide +kernel
theorem dX1_changeWay_14 : decode cX1_changeWay 14 = .ok (.getfield 9, 3) := by decide +kernel
theorem dX1_changeWay_17 : decode cX1_changeWay 17 = .ok (.iload_n 1, 1) := by decide +kernel
theorem dX1_changeWay_18 : decode cX1_changeWay 18 = .ok (.iload_n 2, 1) := by decide +kernel
theorem dX1_changeWay_19 : decode cX1_changeWay 19 = .ok (.iastore, 1) := by decide +kernel
theorem dX1_changeWay_20 : decode cX1_changeWay 20 = .ok (.return_, 1) := by decide +kernel
theorem dX1_wayBetween_0 : decode cX1_wayBetween 0 = .ok (.iconst 0, 1) := by decide +kernel
theorem dX1_wayBetween_1 : decode cX1_wayBetween 1 = .ok (.istore_n 3, 1) := by decide +kernel
theorem dX1_wayBetween_2 : decode cX1_wayBetween 2 = .ok (.iload_n 1, 1) := by decide +kernel
theorem dX1_wayBetween_3 : decode cX1_wayBetween 3 = .ok (.iload_n 2, 1) := by decide +kernel
theorem dX1_wayBetween_4 : decode cX1_wayBetween 4 = .ok (.invokestatic 69, 3) := by decide +kernel
theorem dX1_wayBetween_7 : decode cX1_wayBetween 7 = .ok (.istore 4, 2) := by decide +kernel
theorem dX1_wayBetween_9 : decode cX1_wayBetween 9 = .ok (.iload_n 1, 1) := by decide +kernel
theorem dX1_wayBetween_10 : decode cX1_wayBetween 10 = .ok (.iload_n 2, 1) := by decide +kernel
theorem dX1_wayBetween_11 : decode cX1_wayBetween 11 = .ok (.invokestatic 75, 3) := by decide +kernel
theorem dX1_wayBetween_14 : decode cX1_wayBetween 14 = .ok (.istore 5, 2) := by decide +kernel
theorem dX1_wayBetween_16 : decode cX1_wayBetween 16 = .ok (.iload 5, 2) := by decide +kernel
theorem dX1_wayBetween_18 : decode cX1_wayBetween 18 = .ok (.iload 4, 2) := by decide +kernel
theorem dX1_wayBetween_20 : decode cX1_wayBetween 20 = .ok (.if_icmp .ge 18, 3) := by decide +kernel
theorem dX1_wayBetween_23 : decode cX1_wayBetween 23 = .ok (.iload_n 3, 1) := by decide +kernel
theorem dX1_wayBetween_24 : decode cX1_wayBetween 24 = .ok (.aload_n 0, 1) := by decide +kernel
theorem dX1_wayBetween_25 : decode cX1_wayBetween 25 = .ok (.iload 5, 2) := by decide +kernel
theorem dX1_wayBetween_27 : decode cX1_wayBetween 27 = .ok (.invokevirtual 78, 3) := by decide +kernel
theorem dX1_wayBetween_30 : decode cX1_wayBetween 30 = .ok (.iadd, 1) := by decide +kernel
theorem dX1_wayBetween_31 : decode cX1_wayBetween 31 = .ok (.istore_n 3, 1) := by decide +kernel
theorem dX1_wayBetween_32 : decode cX1_wayBetween 32 = .ok (.iinc 5 1, 3) := by decide +kernel
theorem dX1_wayBetween_35 : decode cX1_wayBetween 35 = .ok (.goto (-19), 3) := by decide +kernel
theorem dX1_wayBetween_38 : decode cX1_wayBetween 38 = .ok (.iload_n 3, 1) := by decide +kernel
theorem dX1_wayBetween_39 : decode cX1_wayBetween 39 = .ok (.ireturn, 1) := by decide +kernel
theorem dX1_hangChair_0 : decode cX1_hangChair 0 = .ok (.aload_n 0, 1) := by decide +kernel
theorem dX1_hangChair_1 : decode cX1_hangChair 1 = .ok (.getfield 39, 3) := by decide +kernel
theorem dX1_hangChair_4 : decode cX1_hangChair 4 = .ok (.aload_n 0, 1) := by decide +kernel
theorem dX1_hangChair_5 : decode cX1_hangChair 5 = .ok (.getfield 17, 3) := by decide +kernel
theorem dX1_hangChair_8 : decode cX1_hangChair 8 = .ok (.arraylength, 1) := by decide +kernel
theorem dX1_hangChair_9 : decode cX1_hangChair 9 = .ok (.if_icmp .lt 5, 3) := by decide +kernel
theorem dX1_hangChair_12 : decode cX1_hangChair 12 = .ok (.iconst (-1), 1) := by decide +kernel
theorem dX1_hangChair_13 : decode cX1_hangChair 13 = .ok (.ireturn, 1) := by decide +kernel
theorem dX1_hangChair_14 : decode cX1_hangChair 14 = .ok (.aload_n 0, 1) := by decide +kernel
theorem dX1_hangChair_15 : decode cX1_hangChair 15 = .ok (.dup, 1) := by decide +kernel
theorem dX1_hangChair_16 : decode cX1_hangChair 16 = .ok (.getfield 39, 3) := by decide +kernel
theorem dX1_hangChair_19 : decode cX1_hangChair 19 = .ok (.iconst 1, 1) := by decide +kernel
theorem dX1_hangChair_20 : decode cX1_hangChair 20 = .ok (.iadd, 1) := by decide +kernel
theorem dX1_hangChair_21 : decode cX1_hangChair 21 = .ok (.putfield 39, 3) := by decide +kernel
theorem dX1_hangChair_24 : decode cX1_hangChair 24 = .ok (.aload_n 0, 1) := by decide +kernel
theorem dX1_hangChair_25 : decode cX1_hangChair 25 = .ok (.aload_n 0, 1) := by decide +kernel
theorem dX1_hangChair_26 : decode cX1_hangChair 26 = .ok (.getfield 39, 3) := by decide +kernel
theorem dX1_hangChair_29 : decode cX1_hangChair 29 = .ok (.iconst 1, 1) := by decide +kernel
theorem dX1_hangChair_30 : decode cX1_hangChair 30 = .ok (.isub, 1) := by decide +kernel
theorem dX1_hangChair_31 : decode cX1_hangChair 31 = .ok (.invokevirtual 54, 3) := by decide +kernel
theorem dX1_hangChair_34 : decode cX1_hangChair 34 = .ok (.astore 5, 2) := by decide +kernel
theorem dX1_hangChair_36 : decode cX1_hangChair 36 = .ok (.aload 5, 2) := by decide +kernel
theorem dX1_hangChair_38 : decode cX1_hangChair 38 = .ok (.ifnull 13, 3) := by decide +kernel
theorem dX1_hangChair_41 : decode cX1_hangChair 41 = .ok (.aload 5, 2) := by decide +kernel
theorem dX1_hangChair_43 : decode cX1_hangChair 43 = .ok (.iload_n 1, 1) := by decide +kernel
theorem dX1_hangChair_44 : decode cX1_hangChair 44 = .ok (.iload_n 2, 1) := by decide +kernel
theorem dX1_hangChair_45 : decode cX1_hangChair 45 = .ok (.iload_n 3, 1) := by decide +kernel
theorem dX1_hangChair_46 : decode cX1_hangChair 46 = .ok (.iload 4, 2) := by decide +kernel
theorem dX1_hangChair_48 : decode cX1_hangChair 48 = .ok (.invokevirtual 82, 3) := by decide +kernel
theorem dX1_hangChair_51 : decode cX1_hangChair 51 = .ok (.aload_n 0, 1) := by decide +kernel
theorem dX1_hangChair_52 : decode cX1_hangChair 52 = .ok (.getfield 39, 3) := by decide +kernel
theorem dX1_hangChair_55 : decode cX1_hangChair 55 = .ok (.iconst 1, 1) := by decide +kernel
theorem dX1_hangChair_56 : decode cX1_hangChair 56 = .ok (.isub, 1) := by decide +kernel
theorem dX1_hangChair_57 : decode cX1_hangChair 57 = .ok (.ireturn, 1) := by decide +kernel
theorem dX1_sendTeam_0 : decode cX1_sendTeam 0 = .ok (.aload_n 0, 1) := by decide +kernel
theorem dX1_sendTeam_1 : decode cX1_sendTeam 1 = .ok (.getfield 42, 3) := by decide +kernel
theorem dX1_sendTeam_4 : decode cX1_sendTeam 4 = .ok (.aload_n 0, 1) := by decide +kernel
theorem dX1_sendTeam_5 : decode cX1_sendTeam 5 = .ok (.getfield 24, 3) := by decide +kernel
theorem dX1_sendTeam_8 : decode cX1_sendTeam 8 = .ok (.arraylength, 1) := by decide +kernel
theorem dX1_sendTeam_9 : decode cX1_sendTeam 9 = .ok (.if_icmp .lt 5, 3) := by decide +kernel
theorem dX1_sendTeam_12 : decode cX1_sendTeam 12 = .ok (.iconst (-1), 1) := by decide +kernel
theorem dX1_sendTeam_13 : decode cX1_sendTeam 13 = .ok (.ireturn, 1) := by decide +kernel
theorem dX1_sendTeam_14 : decode cX1_sendTeam 14 = .ok (.aload_n 0, 1) := by decide +kernel
theorem dX1_sendTeam_15 : decode cX1_sendTeam 15 = .ok (.dup, 1) := by decide +kernel
theorem dX1_sendTeam_16 : decode cX1_sendTeam 16 = .ok (.getfield 42, 3) := by decide +kernel
theorem dX1_sendTeam_19 : decode cX1_sendTeam 19 = .ok (.iconst 1, 1) := by decide +kernel
theorem dX1_sendTeam_20 : decode cX1_sendTeam 20 = .ok (.iadd, 1) := by decide +kernel
theorem dX1_sendTeam_21 : decode cX1_sendTeam 21 = .ok (.putfield 42, 3) := by decide +kernel
theorem dX1_sendTeam_24 : decode cX1_sendTeam 24 = .ok (.aload_n 0, 1) := by decide +kernel
theorem dX1_sendTeam_25 : decode cX1_sendTeam 25 = .ok (.aload_n 0, 1) := by decide +kernel
theorem dX1_sendTeam_26 : decode cX1_sendTeam 26 = .ok (.getfield 42, 3) := by decide +kernel
theorem dX1_sendTeam_29 : decode cX1_sendTeam 29 = .ok (.iconst 1, 1) := by decide +kernel
theorem dX1_sendTeam_30 : decode cX1_sendTeam 30 = .ok (.isub, 1) := by decide +kernel
theorem dX1_sendTeam_31 : decode cX1_sendTeam 31 = .ok (.invokevirtual 62, 3) := by decide +kernel
theorem dX1_sendTeam_34 : decode cX1_sendTeam 34 = .ok (.astore_n 3, 1) := by decide +kernel
theorem dX1_sendTeam_35 : decode cX1_sendTeam 35 = .ok (.aload_n 3, 1) := by decide +kernel
theorem dX1_sendTeam_36 : decode cX1_sendTeam 36 = .ok (.ifnull 9, 3) := by decide +kernel
theorem dX1_sendTeam_39 : decode cX1_sendTeam 39 = .ok (.aload_n 3, 1) := by decide +kernel
theorem dX1_sendTeam_40 : decode cX1_sendTeam 40 = .ok (.iload_n 1, 1) := by decide +kernel
theorem dX1_sendTeam_41 : decode cX1_sendTeam 41 = .ok (.iload_n 2, 1) := by decide +kernel
theorem dX1_sendTeam_42 : decode cX1_sendTeam 42 = .ok (.invokevirtual 86, 3) := by decide +kernel
theorem dX1_sendTeam_45 : decode cX1_sendTeam 45 = .ok (.aload_n 0, 1) := by decide +kernel
theorem dX1_sendTeam_46 : decode cX1_sendTeam 46 = .ok (.getfield 42, 3) := by decide +kernel
theorem dX1_sendTeam_49 : decode cX1_sendTeam 49 = .ok (.iconst 1, 1) := by decide +kernel
theorem dX1_sendTeam_50 : decode cX1_sendTeam 50 = .ok (.isub, 1) := by decide +kernel
theorem dX1_sendTeam_51 : decode cX1_sendTeam 51 = .ok (.ireturn, 1) := by decide +kernel
theorem dX1_runOut_0 : decode cX1_runOut 0 = .ok (.iconst 0, 1) := by decide +kernel
theorem dX1_runOut_1 : decode cX1_runOut 1 = .ok (.istore_n 1, 1) := by decide +kernel
theorem dX1_runOut_2 : decode cX1_runOut 2 = .ok (.aload_n 0, 1) := by decide +kernel
theorem dX1_runOut_3 : decode cX1_runOut 3 = .ok (.getfield 42, 3) := by decide +kernel
theorem dX1_runOut_6 : decode cX1_runOut 6 = .ok (.ifCond .le 36, 3) := by decide +kernel
theorem dX1_runOut_9 : decode cX1_runOut 9 = .ok (.iconst 0, 1) := by decide +kernel
theorem dX1_runOut_10 : decode cX1_runOut 10 = .ok (.istore_n 2, 1) := by decide +kernel
theorem dX1_runOut_11 : decode cX1_runOut 11 = .ok (.iload_n 2, 1) := by decide +kernel
theorem dX1_runOut_12 : decode cX1_runOut 12 = .ok (.sipush 1000, 3) := by decide +kernel
theorem dX1_runOut_15 : decode cX1_runOut 15 = .ok (.if_icmp .ge 27, 3) := by decide +kernel
theorem dX1_runOut_18 : decode cX1_runOut 18 = .ok (.aload_n 0, 1) := by decide +kernel
theorem dX1_runOut_19 : decode cX1_runOut 19 = .ok (.getfield 45, 3) := by decide +kernel
theorem dX1_runOut_22 : decode cX1_runOut 22 = .ok (.aload_n 0, 1) := by decide +kernel
theorem dX1_runOut_23 : decode cX1_runOut 23 = .ok (.getfield 39, 3) := by decide +kernel
theorem dX1_runOut_26 : decode cX1_runOut 26 = .ok (.if_icmp .ge 16, 3) := by decide +kernel
theorem dX1_runOut_29 : decode cX1_runOut 29 = .ok (.aload_n 0, 1) := by decide +kernel
theorem dX1_runOut_30 : decode cX1_runOut 30 = .ok (.invokevirtual 90, 3) := by decide +kernel
theorem dX1_runOut_33 : decode cX1_runOut 33 = .ok (.iinc 1 1, 3) := by decide +kernel
theorem dX1_runOut_36 : decode cX1_runOut 36 = .ok (.iinc 2 1, 3) := by decide +kernel
theorem dX1_runOut_39 : decode cX1_runOut 39 = .ok (.goto (-28), 3) := by decide +kernel
theorem dX1_runOut_42 : decode cX1_runOut 42 = .ok (.aload_n 0, 1) := by decide +kernel
theorem dX1_runOut_43 : decode cX1_runOut 43 = .ok (.getfield 45, 3) := by decide +kernel
theorem dX1_runOut_46 : decode cX1_runOut 46 = .ok (.aload_n 0, 1) := by decide +kernel
theorem dX1_runOut_47 : decode cX1_runOut 47 = .ok (.getfield 39, 3) := by decide +kernel
theorem dX1_runOut_50 : decode cX1_runOut 50 = .ok (.if_icmp .ge 7, 3) := by decide +kernel
theorem dX1_runOut_53 : decode cX1_runOut 53 = .ok (.iconst (-1), 1) := by decide +kernel
theorem dX1_runOut_54 : decode cX1_runOut 54 = .ok (.goto 4, 3) := by decide +kernel
theorem dX1_runOut_57 : decode cX1_runOut 57 = .ok (.iload_n 1, 1) := by decide +kernel
theorem dX1_runOut_58 : decode cX1_runOut 58 = .ok (.ireturn, 1) := by decide +kernel
theorem dX1_passMinute_0 : decode cX1_passMinute 0 = .ok (.aload_n 0, 1) := by decide +kernel
theorem dX1_passMinute_1 : decode cX1_passMinute 1 = .ok (.getfield 36, 3) := by decide +kernel
theorem dX1_passMinute_4 : decode cX1_passMinute 4 = .ok (.iconst 1, 1) := by decide +kernel
theorem dX1_passMinute_5 : decode cX1_passMinute 5 = .ok (.iadd, 1) := by decide +kernel
theorem dX1_passMinute_6 : decode cX1_passMinute 6 = .ok (.bipush 10, 2) := by decide +kernel
theorem dX1_passMinute_8 : decode cX1_passMinute 8 = .ok (.irem, 1) := by decide +kernel
theorem dX1_passMinute_9 : decode cX1_passMinute 9 = .ok (.ifCond .ne 7, 3) := by decide +kernel
theorem dX1_passMinute_12 : decode cX1_passMinute 12 = .ok (.aload_n 0, 1) := by decide +kernel
theorem dX1_passMinute_13 : decode cX1_passMinute 13 = .ok (.invokevirtual 93, 3) := by decide +kernel
theorem dX1_passMinute_16 : decode cX1_passMinute 16 = .ok (.iconst 0, 1) := by decide +kernel
theorem dX1_passMinute_17 : decode cX1_passMinute 17 = .ok (.istore_n 1, 1) := by decide +kernel
theorem dX1_passMinute_18 : decode cX1_passMinute 18 = .ok (.iload_n 1, 1) := by decide +kernel
theorem dX1_passMinute_19 : decode cX1_passMinute 19 = .ok (.aload_n 0, 1) := by decide +kernel
theorem dX1_passMinute_20 : decode cX1_passMinute 20 = .ok (.getfield 42, 3) := by decide +kernel
theorem dX1_passMinute_23 : decode cX1_passMinute 23 = .ok (.if_icmp .ge 14, 3) := by decide +kernel
theorem dX1_passMinute_26 : decode cX1_passMinute 26 = .ok (.aload_n 0, 1) := by decide +kernel
theorem dX1_passMinute_27 : decode cX1_passMinute 27 = .ok (.iload_n 1, 1) := by decide +kernel
theorem dX1_passMinute_28 : decode cX1_passMinute 28 = .ok (.invokevirtual 96, 3) := by decide +kernel
theorem dX1_passMinute_31 : decode cX1_passMinute 31 = .ok (.iinc 1 1, 3) := by decide +kernel
theorem dX1_passMinute_34 : decode cX1_passMinute 34 = .ok (.goto (-16), 3) := by decide +kernel
theorem dX1_passMinute_37 : decode cX1_passMinute 37 = .ok (.iconst 0, 1) := by decide +kernel
theorem dX1_passMinute_38 : decode cX1_passMinute 38 = .ok (.istore_n 1, 1) := by decide +kernel
theorem dX1_passMinute_39 : decode cX1_passMinute 39 = .ok (.iload_n 1, 1) := by decide +kernel
theorem dX1_passMinute_40 : decode cX1_passMinute 40 = .ok (.aload_n 0, 1) := by decide +kernel
theorem dX1_passMinute_41 : decode cX1_passMinute 41 = .ok (.getfield 42, 3) := by decide +kernel
theorem dX1_passMinute_44 : decode cX1_passMinute 44 = .ok (.if_icmp .ge 14, 3) := by decide +kernel
theorem dX1_passMinute_47 : decode cX1_passMinute 47 = .ok (.aload_n 0, 1) := by decide +kernel
theorem dX1_passMinute_48 : decode cX1_passMinute 48 = .ok (.iload_n 1, 1) := by decide +kernel
theorem dX1_passMinute_49 : decode cX1_passMinute 49 = .ok (.invokevirtual 100, 3) := by decide +kernel
theorem dX1_passMinute_52 : decode cX1_passMinute 52 = .ok (.iinc 1 1, 3) := by decide +kernel
theorem dX1_passMinute_55 : decode cX1_passMinute 55 = .ok (.goto (-16), 3) := by decide +kernel
theorem dX1_passMinute_58 : decode cX1_passMinute 58 = .ok (.aload_n 0, 1) := by decide +kernel
theorem dX1_passMinute_59 : decode cX1_passMinute 59 = .ok (.dup, 1) := by decide +kernel
theorem dX1_passMinute_60 : decode cX1_passMinute 60 = .ok (.getfield 36, 3) := by decide +kernel
theorem dX1_passMinute_63 : decode cX1_passMinute 63 = .ok (.iconst 1, 1) := by decide +kernel
theorem dX1_passMinute_64 : decode cX1_passMinute 64 = .ok (.iadd, 1) := by decide +kernel
theorem dX1_passMinute_65 : decode cX1_passMinute 65 = .ok (.putfield 36, 3) := by decide +kernel
theorem dX1_passMinute_68 : decode cX1_passMinute 68 = .ok (.return_, 1) := by decide +kernel
theorem dX1_growColder_0 : decode cX1_growColder 0 = .ok (.iconst 0, 1) := by decide +kernel
theorem dX1_growColder_1 : decode cX1_growColder 1 = .ok (.istore_n 1, 1) := by decide +kernel
theorem dX1_growColder_2 : decode cX1_growColder 2 = .ok (.iload_n 1, 1) := by decide +kernel
theorem dX1_growColder_3 : decode cX1_growColder 3 = .ok (.aload_n 0, 1) := by decide +kernel
theorem dX1_growColder_4 : decode cX1_growColder 4 = .ok (.getfield 39, 3) := by decide +kernel
theorem dX1_growColder_7 : decode cX1_growColder 7 = .ok (.if_icmp .ge 42, 3) := by decide +kernel
theorem dX1_growColder_10 : decode cX1_growColder 10 = .ok (.aload_n 0, 1) := by decide +kernel
theorem dX1_growColder_11 : decode cX1_growColder 11 = .ok (.iload_n 1, 1) := by decide +kernel
theorem dX1_growColder_12 : decode cX1_growColder 12 = .ok (.invokevirtual 54, 3) := by decide +kernel
theorem dX1_growColder_15 : decode cX1_growColder 15 = .ok (.astore_n 2, 1) := by decide +kernel
theorem dX1_growColder_16 : decode cX1_growColder 16 = .ok (.aload_n 2, 1) := by decide +kernel
theorem dX1_growColder_17 : decode cX1_growColder 17 = .ok (.ifnull 26, 3) := by decide +kernel
theorem dX1_growColder_20 : decode cX1_growColder 20 = .ok (.aload_n 2, 1) := by decide +kernel
theorem dX1_growColder_21 : decode cX1_growColder 21 = .ok (.getfield 103, 3) := by decide +kernel
theorem dX1_growColder_24 : decode cX1_growColder 24 = .ok (.iconst 2, 1) := by decide +kernel
theorem dX1_growColder_25 : decode cX1_growColder 25 = .ok (.if_icmp .eq 18, 3) := by decide +kernel
theorem dX1_growColder_28 : decode cX1_growColder 28 = .ok (.aload_n 2, 1) := by decide +kernel
theorem dX1_growColder_29 : decode cX1_growColder 29 = .ok (.bipush 20, 2) := by decide +kernel
theorem dX1_growColder_31 : decode cX1_growColder 31 = .ok (.aload_n 2, 1) := by decide +kernel
theorem dX1_growColder_32 : decode cX1_growColder 32 = .ok (.getfield 106, 3) := by decide +kernel
theorem dX1_growColder_35 : decode cX1_growColder 35 = .ok (.iconst 1, 1) := by decide +kernel
theorem dX1_growColder_36 : decode cX1_growColder 36 = .ok (.iadd, 1) := by decide +kernel
theorem dX1_growColder_37 : decode cX1_growColder 37 = .ok (.invokestatic 75, 3) := by decide +kernel
theorem dX1_growColder_40 : decode cX1_growColder 40 = .ok (.putfield 106, 3) := by decide +kernel
theorem dX1_growColder_43 : decode cX1_growColder 43 = .ok (.iinc 1 1, 3) := by decide +kernel
theorem dX1_growColder_46 : decode cX1_growColder 46 = .ok (.goto (-44), 3) := by decide +kernel
theorem dX1_growColder_49 : decode cX1_growColder 49 = .ok (.return_, 1) := by decide +kernel
theorem dX1_goOn_0 : decode cX1_goOn 0 = .ok (.aload_n 0, 1) := by decide +kernel
theorem dX1_goOn_1 : decode cX1_goOn 1 = .ok (.iload_n 1, 1) := by decide +kernel
theorem dX1_goOn_2 : decode cX1_goOn 2 = .ok (.invokevirtual 62, 3) := by decide +kernel
theorem dX1_goOn_5 : decode cX1_goOn 5 = .ok (.astore_n 2, 1) := by decide +kernel
theorem dX1_goOn_6 : decode cX1_goOn 6 = .ok (.aload_n 2, 1) := by decide +kernel
theorem dX1_goOn_7 : decode cX1_goOn 7 = .ok (.ifnull 10, 3) := by decide +kernel
theorem dX1_goOn_10 : decode cX1_goOn 10 = .ok (.aload_n 2, 1) := by decide +kernel
theorem dX1_goOn_11 : decode cX1_goOn 11 = .ok (.getfield 109, 3) := by decide +kernel
theorem dX1_goOn_14 : decode cX1_goOn 14 = .ok (.ifCond .ne 4, 3) := by decide +kernel
theorem dX1_goOn_17 : decode cX1_goOn 17 = .ok (.return_, 1) := by decide +kernel
theorem dX1_goOn_18 : decode cX1_goOn 18 = .ok (.aload_n 2, 1) := by decide +kernel
theorem dX1_goOn_19 : decode cX1_goOn 19 = .ok (.getfield 109, 3) := by decide +kernel
theorem dX1_goOn_22 : decode cX1_goOn 22 = .ok (.iconst 1, 1) := by decide +kernel
theorem dX1_goOn_23 : decode cX1_goOn 23 = .ok (.if_icmp .ne 13, 3) := by decide +kernel
theorem dX1_goOn_26 : decode cX1_goOn 26 = .ok (.aload_n 2, 1) := by decide +kernel
theorem dX1_goOn_27 : decode cX1_goOn 27 = .ok (.dup, 1) := by decide +kernel
theorem dX1_goOn_28 : decode cX1_goOn 28 = .ok (.getfield 110, 3) := by decide +kernel
theorem dX1_goOn_31 : decode cX1_goOn 31 = .ok (.iconst 1, 1) := by decide +kernel
theorem dX1_goOn_32 : decode cX1_goOn 32 = .ok (.iadd, 1) := by decide +kernel
theorem dX1_goOn_33 : decode cX1_goOn 33 = .ok (.putfield 110, 3) := by decide +kernel
theorem dX1_goOn_36 : decode cX1_goOn 36 = .ok (.aload_n 2, 1) := by decide +kernel
theorem dX1_goOn_37 : decode cX1_goOn 37 = .ok (.dup, 1) := by decide +kernel
theorem dX1_goOn_38 : decode cX1_goOn 38 = .ok (.getfield 113, 3) := by decide +kernel
theorem dX1_goOn_41 : decode cX1_goOn 41 = .ok (.iconst 1, 1) := by decide +kernel
theorem dX1_goOn_42 : decode cX1_goOn 42 = .ok (.isub, 1) := by decide +kernel
theorem dX1_goOn_43 : decode cX1_goOn 43 = .ok (.putfield 113, 3) := by decide +kernel
theorem dX1_goOn_46 : decode cX1_goOn 46 = .ok (.aload_n 2, 1) := by decide +kernel
theorem dX1_goOn_47 : decode cX1_goOn 47 = .ok (.getfield 113, 3) := by decide +kernel
theorem dX1_goOn_50 : decode cX1_goOn 50 = .ok (.ifCond .le 4, 3) := by decide +kernel
theorem dX1_goOn_53 : decode cX1_goOn 53 = .ok (.return_, 1) := by decide +kernel
theorem dX1_goOn_54 : decode cX1_goOn 54 = .ok (.aload_n 2, 1) := by decide +kernel
theorem dX1_goOn_55 : decode cX1_goOn 55 = .ok (.getfield 109, 3) := by decide +kernel
theorem dX1_goOn_58 : decode cX1_goOn 58 = .ok (.iconst 3, 1) := by decide +kernel
theorem dX1_goOn_59 : decode cX1_goOn 59 = .ok (.if_icmp .ne 23, 3) := by decide +kernel
theorem dX1_goOn_62 : decode cX1_goOn 62 = .ok (.aload_n 2, 1) := by decide +kernel
theorem dX1_goOn_63 : decode cX1_goOn 63 = .ok (.invokevirtual 116, 3) := by decide +kernel
theorem dX1_goOn_66 : decode cX1_goOn 66 = .ok (.aload_n 2, 1) := by decide +kernel
theorem dX1_goOn_67 : decode cX1_goOn 67 = .ok (.iconst 0, 1) := by decide +kernel
theorem dX1_goOn_68 : decode cX1_goOn 68 = .ok (.aload_n 2, 1) := by decide +kernel
theorem dX1_goOn_69 : decode cX1_goOn 69 = .ok (.getfield 119, 3) := by decide +kernel
theorem dX1_goOn_72 : decode cX1_goOn 72 = .ok (.bipush 6, 2) := by decide +kernel
theorem dX1_goOn_74 : decode cX1_goOn 74 = .ok (.isub, 1) := by decide +kernel
theorem dX1_goOn_75 : decode cX1_goOn 75 = .ok (.invokestatic 69, 3) := by decide +kernel
theorem dX1_goOn_78 : decode cX1_goOn 78 = .ok (.putfield 119, 3) := by decide +kernel
theorem dX1_goOn_81 : decode cX1_goOn 81 = .ok (.return_, 1) := by decide +kernel
theorem dX1_goOn_82 : decode cX1_goOn 82 = .ok (.aload_n 0, 1) := by decide +kernel
theorem dX1_goOn_83 : decode cX1_goOn 83 = .ok (.aload_n 2, 1) := by decide +kernel
theorem dX1_goOn_84 : decode cX1_goOn 84 = .ok (.getfield 122, 3) := by decide +kernel
theorem dX1_goOn_87 : decode cX1_goOn 87 = .ok (.invokevirtual 54, 3) := by decide +kernel
theorem dX1_goOn_90 : decode cX1_goOn 90 = .ok (.astore_n 3, 1) := by decide +kernel
theorem dX1_goOn_91 : decode cX1_goOn 91 = .ok (.aload_n 3, 1) := by decide +kernel
theorem dX1_goOn_92 : decode cX1_goOn 92 = .ok (.ifnonnull 4, 3) := by decide +kernel
theorem dX1_goOn_95 : decode cX1_goOn 95 = .ok (.return_, 1) := by decide +kernel
theorem dX1_goOn_96 : decode cX1_goOn 96 = .ok (.aload_n 2, 1) := by decide +kernel
theorem dX1_goOn_97 : decode cX1_goOn 97 = .ok (.getfield 109, 3) := by decide +kernel
theorem dX1_goOn_100 : decode cX1_goOn 100 = .ok (.iconst 1, 1) := by decide +kernel
theorem dX1_goOn_101 : decode cX1_goOn 101 = .ok (.if_icmp .ne 13, 3) := by decide +kernel
theorem dX1_goOn_104 : decode cX1_goOn 104 = .ok (.aload_n 0, 1) := by decide +kernel
theorem dX1_goOn_105 : decode cX1_goOn 105 = .ok (.iload_n 1, 1) := by decide +kernel
theorem dX1_goOn_106 : decode cX1_goOn 106 = .ok (.aload_n 2, 1) := by decide +kernel
theorem dX1_goOn_107 : decode cX1_goOn 107 = .ok (.aload_n 3, 1) := by decide +kernel
theorem dX1_goOn_108 : decode cX1_goOn 108 = .ok (.invokevirtual 125, 3) := by decide +kernel
theorem dX1_goOn_111 : decode cX1_goOn 111 = .ok (.goto 9, 3) := by decide +kernel
theorem dX1_goOn_114 : decode cX1_goOn 114 = .ok (.aload_n 0, 1) := by decide +kernel
theorem dX1_goOn_115 : decode cX1_goOn 115 = .ok (.aload_n 2, 1) := by decide +kernel
theorem dX1_goOn_116 : decode cX1_goOn 116 = .ok (.aload_n 3, 1) := by decide +kernel
theorem dX1_goOn_117 : decode cX1_goOn 117 = .ok (.invokevirtual 129, 3) := by decide +kernel
theorem dX1_goOn_120 : decode cX1_goOn 120 = .ok (.return_, 1) := by decide +kernel
theorem dX1_takeChair_0 : decode cX1_takeChair 0 = .ok (.aload_n 0, 1) := by decide +kernel
theorem dX1_takeChair_1 : decode cX1_takeChair 1 = .ok (.iload_n 1, 1) := by decide +kernel
theorem dX1_takeChair_2 : decode cX1_takeChair 2 = .ok (.invokevirtual 62, 3) := by decide +kernel
theorem dX1_takeChair_5 : decode cX1_takeChair 5 = .ok (.astore_n 2, 1) := by decide +kernel
theorem dX1_takeChair_6 : decode cX1_takeChair 6 = .ok (.aload_n 2, 1) := by decide +kernel
theorem dX1_takeChair_7 : decode cX1_takeChair 7 = .ok (.ifnull 10, 3) := by decide +kernel
theorem dX1_takeChair_10 : decode cX1_takeChair 10 = .ok (.aload_n 2, 1) := by decide +kernel
theorem dX1_takeChair_11 : decode cX1_takeChair 11 = .ok (.getfield 109, 3) := by decide +kernel
theorem dX1_takeChair_14 : decode cX1_takeChair 14 = .ok (.ifCond .eq 4, 3) := by decide +kernel
theorem dX1_takeChair_17 : decode cX1_takeChair 17 = .ok (.return_, 1) := by decide +kernel
theorem dX1_takeChair_18 : decode cX1_takeChair 18 = .ok (.aload_n 0, 1) := by decide +kernel
theorem dX1_takeChair_19 : decode cX1_takeChair 19 = .ok (.aload_n 2, 1) := by decide +kernel
theorem dX1_takeChair_20 : decode cX1_takeChair 20 = .ok (.getfield 133, 3) := by decide +kernel
theorem dX1_takeChair_23 : decode cX1_takeChair 23 = .ok (.invokevirtual 136, 3) := by decide +kernel
theorem dX1_takeChair_26 : decode cX1_takeChair 26 = .ok (.istore_n 3, 1) := by decide +kernel
theorem dX1_takeChair_27 : decode cX1_takeChair 27 = .ok (.aload_n 0, 1) := by decide +kernel
theorem dX1_takeChair_28 : decode cX1_takeChair 28 = .ok (.iload_n 3, 1) := by decide +kernel
theorem dX1_takeChair_29 : decode cX1_takeChair 29 = .ok (.invokevirtual 54, 3) := by decide +kernel
theorem dX1_takeChair_32 : decode cX1_takeChair 32 = .ok (.astore 4, 2) := by decide +kernel
theorem dX1_takeChair_34 : decode cX1_takeChair 34 = .ok (.aload 4, 2) := by decide +kernel
theorem dX1_takeChair_36 : decode cX1_takeChair 36 = .ok (.ifnonnull 4, 3) := by decide +kernel
theorem dX1_takeChair_39 : decode cX1_takeChair 39 = .ok (.return_, 1) := by decide +kernel
theorem dX1_takeChair_40 : decode cX1_takeChair 40 = .ok (.aload 4, 2) := by decide +kernel
theorem dX1_takeChair_42 : decode cX1_takeChair 42 = .ok (.iconst 1, 1) := by decide +kernel
theorem dX1_takeChair_43 : decode cX1_takeChair 43 = .ok (.putfield 103, 3) := by decide +kernel
theorem dX1_takeChair_46 : decode cX1_takeChair 46 = .ok (.aload 4, 2) := by decide +kernel
theorem dX1_takeChair_48 : decode cX1_takeChair 48 = .ok (.iload_n 1, 1) := by decide +kernel
theorem dX1_takeChair_49 : decode cX1_takeChair 49 = .ok (.putfield 139, 3) := by decide +kernel
theorem dX1_takeChair_52 : decode cX1_takeChair 52 = .ok (.aload_n 2, 1) := by decide +kernel
theorem dX1_takeChair_53 : decode cX1_takeChair 53 = .ok (.iload_n 3, 1) := by decide +kernel
theorem dX1_takeChair_54 : decode cX1_takeChair 54 = .ok (.putfield 122, 3) := by decide +kernel
theorem dX1_takeChair_57 : decode cX1_takeChair 57 = .ok (.aload_n 0, 1) := by decide +kernel
theorem dX1_takeChair_58 : decode cX1_takeChair 58 = .ok (.aload_n 2, 1) := by decide +kernel
theorem dX1_takeChair_59 : decode cX1_takeChair 59 = .ok (.getfield 133, 3) := by decide +kernel
theorem dX1_takeChair_62 : decode cX1_takeChair 62 = .ok (.aload 4, 2) := by decide +kernel
theorem dX1_takeChair_64 : decode cX1_takeChair 64 = .ok (.getfield 142, 3) := by decide +kernel
theorem dX1_takeChair_67 : decode cX1_takeChair 67 = .ok (.invokevirtual 143, 3) := by decide +kernel
theorem dX1_takeChair_70 : decode cX1_takeChair 70 = .ok (.istore 5, 2) := by decide +kernel
theorem dX1_takeChair_72 : decode cX1_takeChair 72 = .ok (.iload 5, 2) := by decide +kernel
theorem dX1_takeChair_74 : decode cX1_takeChair 74 = .ok (.ifCond .ne 14, 3) := by decide +kernel
theorem dX1_takeChair_77 : decode cX1_takeChair 77 = .ok (.aload_n 0, 1) := by decide +kernel
theorem dX1_takeChair_78 : decode cX1_takeChair 78 = .ok (.iload_n 1, 1) := by decide +kernel
theorem dX1_takeChair_79 : decode cX1_takeChair 79 = .ok (.aload_n 2, 1) := by decide +kernel
theorem dX1_takeChair_80 : decode cX1_takeChair 80 = .ok (.aload 4, 2) := by decide +kernel
theorem dX1_takeChair_82 : decode cX1_takeChair 82 = .ok (.invokevirtual 125, 3) := by decide +kernel
theorem dX1_takeChair_85 : decode cX1_takeChair 85 = .ok (.goto 14, 3) := by decide +kernel
theorem dX1_takeChair_88 : decode cX1_takeChair 88 = .ok (.aload_n 2, 1) := by decide +kernel
theorem dX1_takeChair_89 : decode cX1_takeChair 89 = .ok (.iconst 1, 1) := by decide +kernel
theorem dX1_takeChair_90 : decode cX1_takeChair 90 = .ok (.putfield 109, 3) := by decide +kernel
theorem dX1_takeChair_93 : decode cX1_takeChair 93 = .ok (.aload_n 2, 1) := by decide +kernel
theorem dX1_takeChair_94 : decode cX1_takeChair 94 = .ok (.iload 5, 2) := by decide +kernel
theorem dX1_takeChair_96 : decode cX1_takeChair 96 = .ok (.putfield 113, 3) := by decide +kernel
theorem dX1_takeChair_99 : decode cX1_takeChair 99 = .ok (.return_, 1) := by decide +kernel
theorem dX1_bringDown_0 : decode cX1_bringDown 0 = .ok (.aload_n 2, 1) := by decide +kernel
theorem dX1_bringDown_1 : decode cX1_bringDown 1 = .ok (.aload_n 3, 1) := by decide +kernel
theorem dX1_bringDown_2 : decode cX1_bringDown 2 = .ok (.getfield 142, 3) := by decide +kernel
theorem dX1_bringDown_5 : decode cX1_bringDown 5 = .ok (.putfield 133, 3) := by decide +kernel
theorem dX1_bringDown_8 : decode cX1_bringDown 8 = .ok (.aload_n 2, 1) := by decide +kernel
theorem dX1_bringDown_9 : decode cX1_bringDown 9 = .ok (.aload_n 0, 1) := by decide +kernel
theorem dX1_bringDown_10 : decode cX1_bringDown 10 = .ok (.aload_n 3, 1) := by decide +kernel
theorem dX1_bringDown_11 : decode cX1_bringDown 11 = .ok (.iload_n 1, 1) := by decide +kernel
theorem dX1_bringDown_12 : decode cX1_bringDown 12 = .ok (.aload_n 2, 1) := by decide +kernel
theorem dX1_bringDown_13 : decode cX1_bringDown 13 = .ok (.getfield 119, 3) := by decide +kernel
theorem dX1_bringDown_16 : decode cX1_bringDown 16 = .ok (.invokevirtual 146, 3) := by decide +kernel
theorem dX1_bringDown_19 : decode cX1_bringDown 19 = .ok (.putfield 113, 3) := by decide +kernel
theorem dX1_bringDown_22 : decode cX1_bringDown 22 = .ok (.aload_n 2, 1) := by decide +kernel
theorem dX1_bringDown_23 : decode cX1_bringDown 23 = .ok (.iconst 2, 1) := by decide +kernel
theorem dX1_bringDown_24 : decode cX1_bringDown 24 = .ok (.putfield 109, 3) := by decide +kernel
theorem dX1_bringDown_27 : decode cX1_bringDown 27 = .ok (.return_, 1) := by decide +kernel
theorem dX1_finish_0 : decode cX1_finish 0 = .ok (.aload_n 0, 1) := by decide +kernel
theorem dX1_finish_1 : decode cX1_finish 1 = .ok (.getfield 36, 3) := by decide +kernel
theorem dX1_finish_4 : decode cX1_finish 4 = .ok (.iconst 1, 1) := by decide +kernel
theorem dX1_finish_5 : decode cX1_finish 5 = .ok (.iadd, 1) := by decide +kernel
theorem dX1_finish_6 : decode cX1_finish 6 = .ok (.istore_n 3, 1) := by decide +kernel
theorem dX1_finish_7 : decode cX1_finish 7 = .ok (.aload_n 2, 1) := by decide +kernel
theorem dX1_finish_8 : decode cX1_finish 8 = .ok (.getfield 150, 3) := by decide +kernel
theorem dX1_finish_11 : decode cX1_finish 11 = .ok (.iconst (-1), 1) := by decide +kernel
theorem dX1_finish_12 : decode cX1_finish 12 = .ok (.if_icmp .eq 21, 3) := by decide +kernel
theorem dX1_finish_15 : decode cX1_finish 15 = .ok (.iload_n 3, 1) := by decide +kernel
theorem dX1_finish_16 : decode cX1_finish 16 = .ok (.aload_n 2, 1) := by decide +kernel
theorem dX1_finish_17 : decode cX1_finish 17 = .ok (.getfield 150, 3) := by decide +kernel
theorem dX1_finish_20 : decode cX1_finish 20 = .ok (.if_icmp .gt 13, 3) := by decide +kernel
theorem dX1_finish_23 : decode cX1_finish 23 = .ok (.aload_n 0, 1) := by decide +kernel
theorem dX1_finish_24 : decode cX1_finish 24 = .ok (.dup, 1) := by decide +kernel
theorem dX1_finish_25 : decode cX1_finish 25 = .ok (.getfield 48, 3) := by decide +kernel
theorem dX1_finish_28 : decode cX1_finish 28 = .ok (.iconst 1, 1) := by decide +kernel
theorem dX1_finish_29 : decode cX1_finish 29 = .ok (.iadd, 1) := by decide +kernel
theorem dX1_finish_30 : decode cX1_finish 30 = .ok (.putfield 48, 3) := by decide +kernel
theorem dX1_finish_33 : decode cX1_finish 33 = .ok (.aload_n 2, 1) := by decide +kernel
theorem dX1_finish_34 : decode cX1_finish 34 = .ok (.getfield 150, 3) := by decide +kernel
theorem dX1_finish_37 : decode cX1_finish 37 = .ok (.iconst (-1), 1) := by decide +kernel
theorem dX1_finish_38 : decode cX1_finish 38 = .ok (.if_icmp .eq 21, 3) := by decide +kernel
theorem dX1_finish_41 : decode cX1_finish 41 = .ok (.iload_n 3, 1) := by decide +kernel
theorem dX1_finish_42 : decode cX1_finish 42 = .ok (.aload_n 2, 1) := by decide +kernel
theorem dX1_finish_43 : decode cX1_finish 43 = .ok (.getfield 150, 3) := by decide +kernel
theorem dX1_finish_46 : decode cX1_finish 46 = .ok (.if_icmp .le 13, 3) := by decide +kernel
theorem dX1_finish_49 : decode cX1_finish 49 = .ok (.aload_n 0, 1) := by decide +kernel
theorem dX1_finish_50 : decode cX1_finish 50 = .ok (.dup, 1) := by decide +kernel
theorem dX1_finish_51 : decode cX1_finish 51 = .ok (.getfield 51, 3) := by decide +kernel
theorem dX1_finish_54 : decode cX1_finish 54 = .ok (.iconst 1, 1) := by decide +kernel
theorem dX1_finish_55 : decode cX1_finish 55 = .ok (.iadd, 1) := by decide +kernel
theorem dX1_finish_56 : decode cX1_finish 56 = .ok (.putfield 51, 3) := by decide +kernel
theorem dX1_finish_59 : decode cX1_finish 59 = .ok (.aload_n 2, 1) := by decide +kernel
theorem dX1_finish_60 : decode cX1_finish 60 = .ok (.iconst 2, 1) := by decide +kernel
theorem dX1_finish_61 : decode cX1_finish 61 = .ok (.putfield 103, 3) := by decide +kernel
theorem dX1_finish_64 : decode cX1_finish 64 = .ok (.aload_n 2, 1) := by decide +kernel
theorem dX1_finish_65 : decode cX1_finish 65 = .ok (.iload_n 3, 1) := by decide +kernel
theorem dX1_finish_66 : decode cX1_finish 66 = .ok (.putfield 153, 3) := by decide +kernel
theorem dX1_finish_69 : decode cX1_finish 69 = .ok (.aload_n 0, 1) := by decide +kernel
theorem dX1_finish_70 : decode cX1_finish 70 = .ok (.getfield 45, 3) := by decide +kernel
theorem dX1_finish_73 : decode cX1_finish 73 = .ok (.ifCond .lt 28, 3) := by decide +kernel
theorem dX1_finish_76 : decode cX1_finish 76 = .ok (.aload_n 0, 1) := by decide +kernel
theorem dX1_finish_77 : decode cX1_finish 77 = .ok (.getfield 45, 3) := by decide +kernel
theorem dX1_finish_80 : decode cX1_finish 80 = .ok (.aload_n 0, 1) := by decide +kernel
theorem dX1_finish_81 : decode cX1_finish 81 = .ok (.getfield 29, 3) := by decide +kernel
theorem dX1_finish_84 : decode cX1_finish 84 = .ok (.arraylength, 1) := by decide +kernel
theorem dX1_finish_85 : decode cX1_finish 85 = .ok (.if_icmp .ge 16, 3) := by decide +kernel
theorem dX1_finish_88 : decode cX1_finish 88 = .ok (.aload_n 0, 1) := by decide +kernel
theorem dX1_finish_89 : decode cX1_finish 89 = .ok (.getfield 29, 3) := by decide +kernel
theorem dX1_finish_92 : decode cX1_finish 92 = .ok (.aload_n 0, 1) := by decide +kernel
theorem dX1_finish_93 : decode cX1_finish 93 = .ok (.getfield 45, 3) := by decide +kernel
theorem dX1_finish_96 : decode cX1_finish 96 = .ok (.aload_n 1, 1) := by decide +kernel
theorem dX1_finish_97 : decode cX1_finish 97 = .ok (.getfield 122, 3) := by decide +kernel
theorem dX1_finish_100 : decode cX1_finish 100 = .ok (.iastore, 1) := by decide +kernel
theorem dX1_finish_101 : decode cX1_finish 101 = .ok (.aload_n 0, 1) := by decide +kernel
theorem dX1_finish_102 : decode cX1_finish 102 = .ok (.dup, 1) := by decide +kernel
theorem dX1_finish_103 : decode cX1_finish 103 = .ok (.getfield 45, 3) := by decide +kernel
theorem dX1_finish_106 : decode cX1_finish 106 = .ok (.iconst 1, 1) := by decide +kernel
theorem dX1_finish_107 : decode cX1_finish 107 = .ok (.iadd, 1) := by decide +kernel
theorem dX1_finish_108 : decode cX1_finish 108 = .ok (.putfield 45, 3) := by decide +kernel
theorem dX1_finish_111 : decode cX1_finish 111 = .ok (.aload_n 1, 1) := by decide +kernel
theorem dX1_finish_112 : decode cX1_finish 112 = .ok (.dup, 1) := by decide +kernel
theorem dX1_finish_113 : decode cX1_finish 113 = .ok (.getfield 154, 3) := by decide +kernel
theorem dX1_finish_116 : decode cX1_finish 116 = .ok (.iconst 1, 1) := by decide +kernel
theorem dX1_finish_117 : decode cX1_finish 117 = .ok (.iadd, 1) := by decide +kernel
theorem dX1_finish_118 : decode cX1_finish 118 = .ok (.putfield 154, 3) := by decide +kernel
theorem dX1_finish_121 : decode cX1_finish 121 = .ok (.aload_n 1, 1) := by decide +kernel
theorem dX1_finish_122 : decode cX1_finish 122 = .ok (.dup, 1) := by decide +kernel
theorem dX1_finish_123 : decode cX1_finish 123 = .ok (.getfield 156, 3) := by decide +kernel
theorem dX1_finish_126 : decode cX1_finish 126 = .ok (.aload_n 2, 1) := by decide +kernel
theorem dX1_finish_127 : decode cX1_finish 127 = .ok (.getfield 159, 3) := by decide +kernel
theorem dX1_finish_130 : decode cX1_finish 130 = .ok (.iadd, 1) := by decide +kernel
theorem dX1_finish_131 : decode cX1_finish 131 = .ok (.putfield 156, 3) := by decide +kernel
theorem dX1_finish_134 : decode cX1_finish 134 = .ok (.aload_n 1, 1) := by decide +kernel
theorem dX1_finish_135 : decode cX1_finish 135 = .ok (.bipush 30, 2) := by decide +kernel
theorem dX1_finish_137 : decode cX1_finish 137 = .ok (.aload_n 1, 1) := by decide +kernel
theorem dX1_finish_138 : decode cX1_finish 138 = .ok (.getfield 119, 3) := by decide +kernel
theorem dX1_finish_141 : decode cX1_finish 141 = .ok (.aload_n 2, 1) := by decide +kernel
theorem dX1_finish_142 : decode cX1_finish 142 = .ok (.getfield 159, 3) := by decide +kernel
theorem dX1_finish_145 : decode cX1_finish 145 = .ok (.iadd, 1) := by decide +kernel
theorem dX1_finish_146 : decode cX1_finish 146 = .ok (.invokestatic 75, 3) := by decide +kernel
theorem dX1_finish_149 : decode cX1_finish 149 = .ok (.putfield 119, 3) := by decide +kernel
theorem dX1_finish_152 : decode cX1_finish 152 = .ok (.aload_n 1, 1) := by decide +kernel
theorem dX1_finish_153 : decode cX1_finish 153 = .ok (.invokevirtual 116, 3) := by decide +kernel
theorem dX1_finish_156 : decode cX1_finish 156 = .ok (.aload_n 1, 1) := by decide +kernel
theorem dX1_finish_157 : decode cX1_finish 157 = .ok (.getfield 119, 3) := by decide +kernel
theorem dX1_finish_160 : decode cX1_finish 160 = .ok (.bipush 10, 2) := by decide +kernel
theorem dX1_finish_162 : decode cX1_finish 162 = .ok (.if_icmp .lt 13, 3) := by decide +kernel
theorem dX1_finish_165 : decode cX1_finish 165 = .ok (.aload_n 1, 1) := by decide +kernel
theorem dX1_finish_166 : decode cX1_finish 166 = .ok (.iconst 3, 1) := by decide +kernel
theorem dX1_finish_167 : decode cX1_finish 167 = .ok (.putfield 109, 3) := by decide +kernel
theorem dX1_finish_170 : decode cX1_finish 170 = .ok (.aload_n 1, 1) := by decide +kernel
theorem dX1_finish_171 : decode cX1_finish 171 = .ok (.iconst 5, 1) := by decide +kernel
theorem dX1_finish_172 : decode cX1_finish 172 = .ok (.putfield 113, 3) := by decide +kernel
theorem dX1_finish_175 : decode cX1_finish 175 = .ok (.return_, 1) := by decide +kernel
theorem dX1_workOf_0 : decode cX1_workOf 0 = .ok (.iconst 2, 1) := by decide +kernel
theorem dX1_workOf_1 : decode cX1_workOf 1 = .ok (.aload_n 1, 1) := by decide +kernel
theorem dX1_workOf_2 : decode cX1_workOf 2 = .ok (.getfield 159, 3) := by decide +kernel
theorem dX1_workOf_5 : decode cX1_workOf 5 = .ok (.iconst 1, 1) := by decide +kernel
theorem dX1_workOf_6 : decode cX1_workOf 6 = .ok (.iload_n 3, 1) := by decide +kernel
theorem dX1_workOf_7 : decode cX1_workOf 7 = .ok (.iconst 5, 1) := by decide +kernel
theorem dX1_workOf_8 : decode cX1_workOf 8 = .ok (.idiv, 1) := by decide +kernel
theorem dX1_workOf_9 : decode cX1_workOf 9 = .ok (.iadd, 1) := by decide +kernel
theorem dX1_workOf_10 : decode cX1_workOf 10 = .ok (.imul, 1) := by decide +kernel
theorem dX1_workOf_11 : decode cX1_workOf 11 = .ok (.iadd, 1) := by decide +kernel
theorem dX1_workOf_12 : decode cX1_workOf 12 = .ok (.istore 4, 2) := by decide +kernel
theorem dX1_workOf_14 : decode cX1_workOf 14 = .ok (.iconst 0, 1) := by decide +kernel
theorem dX1_workOf_15 : decode cX1_workOf 15 = .ok (.istore 5, 2) := by decide +kernel
theorem dX1_workOf_17 : decode cX1_workOf 17 = .ok (.iload 5, 2) := by decide +kernel
theorem dX1_workOf_19 : decode cX1_workOf 19 = .ok (.aload_n 0, 1) := by decide +kernel
theorem dX1_workOf_20 : decode cX1_workOf 20 = .ok (.getfield 42, 3) := by decide +kernel
theorem dX1_workOf_23 : decode cX1_workOf 23 = .ok (.if_icmp .ge 58, 3) := by decide +kernel
theorem dX1_workOf_26 : decode cX1_workOf 26 = .ok (.aload_n 0, 1) := by decide +kernel
theorem dX1_workOf_27 : decode cX1_workOf 27 = .ok (.iload 5, 2) := by decide +kernel
theorem dX1_workOf_29 : decode cX1_workOf 29 = .ok (.invokevirtual 62, 3) := by decide +kernel
theorem dX1_workOf_32 : decode cX1_workOf 32 = .ok (.astore 6, 2) := by decide +kernel
theorem dX1_workOf_34 : decode cX1_workOf 34 = .ok (.aload 6, 2) := by decide +kernel
theorem dX1_workOf_36 : decode cX1_workOf 36 = .ok (.ifnull 39, 3) := by decide +kernel
theorem dX1_workOf_39 : decode cX1_workOf 39 = .ok (.iload 5, 2) := by decide +kernel
theorem dX1_workOf_41 : decode cX1_workOf 41 = .ok (.iload_n 2, 1) := by decide +kernel
theorem dX1_workOf_42 : decode cX1_workOf 42 = .ok (.if_icmp .eq 33, 3) := by decide +kernel
theorem dX1_workOf_45 : decode cX1_workOf 45 = .ok (.aload 6, 2) := by decide +kernel
theorem dX1_workOf_47 : decode cX1_workOf 47 = .ok (.getfield 109, 3) := by decide +kernel
theorem dX1_workOf_50 : decode cX1_workOf 50 = .ok (.iconst 2, 1) := by decide +kernel
theorem dX1_workOf_51 : decode cX1_workOf 51 = .ok (.if_icmp .ne 24, 3) := by decide +kernel
theorem dX1_workOf_54 : decode cX1_workOf 54 = .ok (.aload 6, 2) := by decide +kernel
theorem dX1_workOf_56 : decode cX1_workOf 56 = .ok (.getfield 133, 3) := by decide +kernel
theorem dX1_workOf_59 : decode cX1_workOf 59 = .ok (.aload_n 1, 1) := by decide +kernel
theorem dX1_workOf_60 : decode cX1_workOf 60 = .ok (.getfield 142, 3) := by decide +kernel
theorem dX1_workOf_63 : decode cX1_workOf 63 = .ok (.if_icmp .ne 12, 3) := by decide +kernel
theorem dX1_workOf_66 : decode cX1_workOf 66 = .ok (.iconst 1, 1) := by decide +kernel
theorem dX1_workOf_67 : decode cX1_workOf 67 = .ok (.iload 4, 2) := by decide +kernel
theorem dX1_workOf_69 : decode cX1_workOf 69 = .ok (.iconst 1, 1) := by decide +kernel
theorem dX1_workOf_70 : decode cX1_workOf 70 = .ok (.isub, 1) := by decide +kernel
theorem dX1_workOf_71 : decode cX1_workOf 71 = .ok (.invokestatic 69, 3) := by decide +kernel
theorem dX1_workOf_74 : decode cX1_workOf 74 = .ok (.ireturn, 1) := by decide +kernel
theorem dX1_workOf_75 : decode cX1_workOf 75 = .ok (.iinc 5 1, 3) := by decide +kernel
theorem dX1_workOf_78 : decode cX1_workOf 78 = .ok (.goto (-61), 3) := by decide +kernel
theorem dX1_workOf_81 : decode cX1_workOf 81 = .ok (.iload 4, 2) := by decide +kernel
theorem dX1_workOf_83 : decode cX1_workOf 83 = .ok (.ireturn, 1) := by decide +kernel
theorem dX1_choiceFrom_0 : decode cX1_choiceFrom 0 = .ok (.iconst (-1), 1) := by decide +kernel
theorem dX1_choiceFrom_1 : decode cX1_choiceFrom 1 = .ok (.istore_n 2, 1) := by decide +kernel
theorem dX1_choiceFrom_2 : decode cX1_choiceFrom 2 = .ok (.iconst 0, 1) := by decide +kernel
theorem dX1_choiceFrom_3 : decode cX1_choiceFrom 3 = .ok (.istore_n 3, 1) := by decide +kernel
theorem dX1_choiceFrom_4 : decode cX1_choiceFrom 4 = .ok (.iconst 0, 1) := by decide +kernel
theorem dX1_choiceFrom_5 : decode cX1_choiceFrom 5 = .ok (.istore 4, 2) := by decide +kernel
theorem dX1_choiceFrom_7 : decode cX1_choiceFrom 7 = .ok (.iconst 0, 1) := by decide +kernel
theorem dX1_choiceFrom_8 : decode cX1_choiceFrom 8 = .ok (.istore 5, 2) := by decide +kernel
theorem dX1_choiceFrom_10 : decode cX1_choiceFrom 10 = .ok (.iload 5, 2) := by decide +kernel
theorem dX1_choiceFrom_12 : decode cX1_choiceFrom 12 = .ok (.aload_n 0, 1) := by decide +kernel
theorem dX1_choiceFrom_13 : decode cX1_choiceFrom 13 = .ok (.getfield 39, 3) := by decide +kernel
theorem dX1_choiceFrom_16 : decode cX1_choiceFrom 16 = .ok (.if_icmp .ge 83, 3) := by decide +kernel
theorem dX1_choiceFrom_19 : decode cX1_choiceFrom 19 = .ok (.aload_n 0, 1) := by decide +kernel
theorem dX1_choiceFrom_20 : decode cX1_choiceFrom 20 = .ok (.iload 5, 2) := by decide +kernel
theorem dX1_choiceFrom_22 : decode cX1_choiceFrom 22 = .ok (.invokevirtual 54, 3) := by decide +kernel
theorem dX1_choiceFrom_25 : decode cX1_choiceFrom 25 = .ok (.astore 6, 2) := by decide +kernel
theorem dX1_choiceFrom_27 : decode cX1_choiceFrom 27 = .ok (.aload 6, 2) := by decide +kernel
theorem dX1_choiceFrom_29 : decode cX1_choiceFrom 29 = .ok (.ifnull 64, 3) := by decide +kernel
theorem dX1_choiceFrom_32 : decode cX1_choiceFrom 32 = .ok (.aload 6, 2) := by decide +kernel
theorem dX1_choiceFrom_34 : decode cX1_choiceFrom 34 = .ok (.getfield 103, 3) := by decide +kernel
theorem dX1_choiceFrom_37 : decode cX1_choiceFrom 37 = .ok (.ifCond .ne 56, 3) := by decide +kernel
theorem dX1_choiceFrom_40 : decode cX1_choiceFrom 40 = .ok (.aload 6, 2) := by decide +kernel
theorem dX1_choiceFrom_42 : decode cX1_choiceFrom 42 = .ok (.invokevirtual 162, 3) := by decide +kernel
theorem dX1_choiceFrom_45 : decode cX1_choiceFrom 45 = .ok (.istore 7, 2) := by decide +kernel
theorem dX1_choiceFrom_47 : decode cX1_choiceFrom 47 = .ok (.aload_n 0, 1) := by decide +kernel
theorem dX1_choiceFrom_48 : decode cX1_choiceFrom 48 = .ok (.iload_n 1, 1) := by decide +kernel
theorem dX1_choiceFrom_49 : decode cX1_choiceFrom 49 = .ok (.aload 6, 2) := by decide +kernel
theorem dX1_choiceFrom_51 : decode cX1_choiceFrom 51 = .ok (.getfield 142, 3) := by decide +kernel
theorem dX1_choiceFrom_54 : decode cX1_choiceFrom 54 = .ok (.invokevirtual 143, 3) := by decide +kernel
theorem dX1_choiceFrom_57 : decode cX1_choiceFrom 57 = .ok (.istore 8, 2) := by decide +kernel
theorem dX1_choiceFrom_59 : decode cX1_choiceFrom 59 = .ok (.iload_n 2, 1) := by decide +kernel
theorem dX1_choiceFrom_60 : decode cX1_choiceFrom 60 = .ok (.iconst (-1), 1) := by decide +kernel
theorem dX1_choiceFrom_61 : decode cX1_choiceFrom 61 = .ok (.if_icmp .eq 22, 3) := by decide +kernel
theorem dX1_choiceFrom_64 : decode cX1_choiceFrom 64 = .ok (.iload 7, 2) := by decide +kernel
theorem dX1_choiceFrom_66 : decode cX1_choiceFrom 66 = .ok (.iload_n 3, 1) := by decide +kernel
theorem dX1_choiceFrom_67 : decode cX1_choiceFrom 67 = .ok (.if_icmp .gt 16, 3) := by decide +kernel
theorem dX1_choiceFrom_70 : decode cX1_choiceFrom 70 = .ok (.iload 7, 2) := by decide +kernel
theorem dX1_choiceFrom_72 : decode cX1_choiceFrom 72 = .ok (.iload_n 3, 1) := by decide +kernel
theorem dX1_choiceFrom_73 : decode cX1_choiceFrom 73 = .ok (.if_icmp .ne 20, 3) := by decide +kernel
theorem dX1_choiceFrom_76 : decode cX1_choiceFrom 76 = .ok (.iload 8, 2) := by decide +kernel
theorem dX1_choiceFrom_78 : decode cX1_choiceFrom 78 = .ok (.iload 4, 2) := by decide +kernel
theorem dX1_choiceFrom_80 : decode cX1_choiceFrom 80 = .ok (.if_icmp .ge 13, 3) := by decide +kernel
theorem dX1_choiceFrom_83 : decode cX1_choiceFrom 83 = .ok (.iload 5, 2) := by decide +kernel
theorem dX1_choiceFrom_85 : decode cX1_choiceFrom 85 = .ok (.istore_n 2, 1) := by decide +kernel
theorem dX1_choiceFrom_86 : decode cX1_choiceFrom 86 = .ok (.iload 7, 2) := by decide +kernel
theorem dX1_choiceFrom_88 : decode cX1_choiceFrom 88 = .ok (.istore_n 3, 1) := by decide +kernel
theorem dX1_choiceFrom_89 : decode cX1_choiceFrom 89 = .ok (.iload 8, 2) := by decide +kernel
theorem dX1_choiceFrom_91 : decode cX1_choiceFrom 91 = .ok (.istore 4, 2) := by decide +kernel
theorem dX1_choiceFrom_93 : decode cX1_choiceFrom 93 = .ok (.iinc 5 1, 3) := by decide +kernel
theorem dX1_choiceFrom_96 : decode cX1_choiceFrom 96 = .ok (.goto (-86), 3) := by decide +kernel
theorem dX1_choiceFrom_99 : decode cX1_choiceFrom 99 = .ok (.iload_n 2, 1) := by decide +kernel
theorem dX1_choiceFrom_100 : decode cX1_choiceFrom 100 = .ok (.ireturn, 1) := by decide +kernel
theorem dX1_fact_0 : decode cX1_fact 0 = .ok (.iload_n 1, 1) := by decide +kernel
theorem dX1_fact_1 : decode cX1_fact 1 = .ok (.tableswitch 125 0 10 #[59, 64, 69, 74, 79, 85, 91, 97, 109, 115, 120], 59) := by decide +kernel
theorem dX1_fact_60 : decode cX1_fact 60 = .ok (.aload_n 0, 1) := by decide +kernel
theorem dX1_fact_61 : decode cX1_fact 61 = .ok (.getfield 32, 3) := by decide +kernel
theorem dX1_fact_64 : decode cX1_fact 64 = .ok (.ireturn, 1) := by decide +kernel
theorem dX1_fact_65 : decode cX1_fact 65 = .ok (.aload_n 0, 1) := by decide +kernel
theorem dX1_fact_66 : decode cX1_fact 66 = .ok (.getfield 39, 3) := by decide +kernel
theorem dX1_fact_69 : decode cX1_fact 69 = .ok (.ireturn, 1) := by decide +kernel
theorem dX1_fact_70 : decode cX1_fact 70 = .ok (.aload_n 0, 1) := by decide +kernel
theorem dX1_fact_71 : decode cX1_fact 71 = .ok (.getfield 42, 3) := by decide +kernel
theorem dX1_fact_74 : decode cX1_fact 74 = .ok (.ireturn, 1) := by decide +kernel
theorem dX1_fact_75 : decode cX1_fact 75 = .ok (.aload_n 0, 1) := by decide +kernel
theorem dX1_fact_76 : decode cX1_fact 76 = .ok (.getfield 36, 3) := by decide +kernel
theorem dX1_fact_79 : decode cX1_fact 79 = .ok (.ireturn, 1) := by decide +kernel
theorem dX1_fact_80 : decode cX1_fact 80 = .ok (.aload_n 0, 1) := by decide +kernel
theorem dX1_fact_81 : decode cX1_fact 81 = .ok (.iconst 0, 1) := by decide +kernel
theorem dX1_fact_82 : decode cX1_fact 82 = .ok (.invokevirtual 166, 3) := by decide +kernel
theorem dX1_fact_85 : decode cX1_fact 85 = .ok (.ireturn, 1) := by decide +kernel
theorem dX1_fact_86 : decode cX1_fact 86 = .ok (.aload_n 0, 1) := by decide +kernel
theorem dX1_fact_87 : decode cX1_fact 87 = .ok (.iconst 1, 1) := by decide +kernel
theorem dX1_fact_88 : decode cX1_fact 88 = .ok (.invokevirtual 166, 3) := by decide +kernel
theorem dX1_fact_91 : decode cX1_fact 91 = .ok (.ireturn, 1) := by decide +kernel
theorem dX1_fact_92 : decode cX1_fact 92 = .ok (.aload_n 0, 1) := by decide +kernel
theorem dX1_fact_93 : decode cX1_fact 93 = .ok (.iconst 2, 1) := by decide +kernel
theorem dX1_fact_94 : decode cX1_fact 94 = .ok (.invokevirtual 166, 3) := by decide +kernel
theorem dX1_fact_97 : decode cX1_fact 97 = .ok (.ireturn, 1) := by decide +kernel
theorem dX1_fact_98 : decode cX1_fact 98 = .ok (.aload_n 0, 1) := by decide +kernel
theorem dX1_fact_99 : decode cX1_fact 99 = .ok (.iconst 0, 1) := by decide +kernel
theorem dX1_fact_100 : decode cX1_fact 100 = .ok (.invokevirtual 169, 3) := by decide +kernel
theorem dX1_fact_103 : decode cX1_fact 103 = .ok (.aload_n 0, 1) := by decide +kernel
theorem dX1_fact_104 : decode cX1_fact 104 = .ok (.iconst 1, 1) := by decide +kernel
theorem dX1_fact_105 : decode cX1_fact 105 = .ok (.invokevirtual 169, 3) := by decide +kernel
theorem dX1_fact_108 : decode cX1_fact 108 = .ok (.iadd, 1) := by decide +kernel
theorem dX1_fact_109 : decode cX1_fact 109 = .ok (.ireturn, 1) := by decide +kernel
theorem dX1_fact_110 : decode cX1_fact 110 = .ok (.aload_n 0, 1) := by decide +kernel
theorem dX1_fact_111 : decode cX1_fact 111 = .ok (.iconst 2, 1) := by decide +kernel
theorem dX1_fact_112 : decode cX1_fact 112 = .ok (.invokevirtual 169, 3) := by decide +kernel
theorem dX1_fact_115 : decode cX1_fact 115 = .ok (.ireturn, 1) := by decide +kernel
theorem dX1_fact_116 : decode cX1_fact 116 = .ok (.aload_n 0, 1) := by decide +kernel
theorem dX1_fact_117 : decode cX1_fact 117 = .ok (.getfield 48, 3) := by decide +kernel
theorem dX1_fact_120 : decode cX1_fact 120 = .ok (.ireturn, 1) := by decide +kernel
theorem dX1_fact_121 : decode cX1_fact 121 = .ok (.aload_n 0, 1) := by decide +kernel
theorem dX1_fact_122 : decode cX1_fact 122 = .ok (.getfield 51, 3) := by decide +kernel
theorem dX1_fact_125 : decode cX1_fact 125 = .ok (.ireturn, 1) := by decide +kernel
theorem dX1_fact_126 : decode cX1_fact 126 = .ok (.aload_n 0, 1) := by decide +kernel
theorem dX1_fact_127 : decode cX1_fact 127 = .ok (.invokevirtual 172, 3) := by decide +kernel
theorem dX1_fact_130 : decode cX1_fact 130 = .ok (.ireturn, 1) := by decide +kernel
theorem dX1_chairsIn_0 : decode cX1_chairsIn 0 = .ok (.iconst 0, 1) := by decide +kernel
theorem dX1_chairsIn_1 : decode cX1_chairsIn 1 = .ok (.istore_n 2, 1) := by decide +kernel
theorem dX1_chairsIn_2 : decode cX1_chairsIn 2 = .ok (.iconst 0, 1) := by decide +kernel
theorem dX1_chairsIn_3 : decode cX1_chairsIn 3 = .ok (.istore_n 3, 1) := by decide +kernel
theorem dX1_chairsIn_4 : decode cX1_chairsIn 4 = .ok (.iload_n 3, 1) := by decide +kernel
theorem dX1_chairsIn_5 : decode cX1_chairsIn 5 = .ok (.aload_n 0, 1) := by decide +kernel
theorem dX1_chairsIn_6 : decode cX1_chairsIn 6 = .ok (.getfield 39, 3) := by decide +kernel
theorem dX1_chairsIn_9 : decode cX1_chairsIn 9 = .ok (.if_icmp .ge 33, 3) := by decide +kernel
theorem dX1_chairsIn_12 : decode cX1_chairsIn 12 = .ok (.aload_n 0, 1) := by decide +kernel
theorem dX1_chairsIn_13 : decode cX1_chairsIn 13 = .ok (.iload_n 3, 1) := by decide +kernel
theorem dX1_chairsIn_14 : decode cX1_chairsIn 14 = .ok (.invokevirtual 54, 3) := by decide +kernel
theorem dX1_chairsIn_17 : decode cX1_chairsIn 17 = .ok (.astore 4, 2) := by decide +kernel
theorem dX1_chairsIn_19 : decode cX1_chairsIn 19 = .ok (.aload 4, 2) := by decide +kernel
theorem dX1_chairsIn_21 : decode cX1_chairsIn 21 = .ok (.ifnull 15, 3) := by decide +kernel
theorem dX1_chairsIn_24 : decode cX1_chairsIn 24 = .ok (.aload 4, 2) := by decide +kernel
theorem dX1_chairsIn_26 : decode cX1_chairsIn 26 = .ok (.getfield 103, 3) := by decide +kernel
theorem dX1_chairsIn_29 : decode cX1_chairsIn 29 = .ok (.iload_n 1, 1) := by decide +kernel
theorem dX1_chairsIn_30 : decode cX1_chairsIn 30 = .ok (.if_icmp .ne 6, 3) := by decide +kernel
theorem dX1_chairsIn_33 : decode cX1_chairsIn 33 = .ok (.iinc 2 1, 3) := by decide +kernel
theorem dX1_chairsIn_36 : decode cX1_chairsIn 36 = .ok (.iinc 3 1, 3) := by decide +kernel
theorem dX1_chairsIn_39 : decode cX1_chairsIn 39 = .ok (.goto (-35), 3) := by decide +kernel
theorem dX1_chairsIn_42 : decode cX1_chairsIn 42 = .ok (.iload_n 2, 1) := by decide +kernel
theorem dX1_chairsIn_43 : decode cX1_chairsIn 43 = .ok (.ireturn, 1) := by decide +kernel
theorem dX1_ridersIn_0 : decode cX1_ridersIn 0 = .ok (.iconst 0, 1) := by decide +kernel
theorem dX1_ridersIn_1 : decode cX1_ridersIn 1 = .ok (.istore_n 2, 1) := by decide +kernel
theorem dX1_ridersIn_2 : decode cX1_ridersIn 2 = .ok (.iconst 0, 1) := by decide +kernel
theorem dX1_ridersIn_3 : decode cX1_ridersIn 3 = .ok (.istore_n 3, 1) := by decide +kernel
theorem dX1_ridersIn_4 : decode cX1_ridersIn 4 = .ok (.iload_n 3, 1) := by decide +kernel
theorem dX1_ridersIn_5 : decode cX1_ridersIn 5 = .ok (.aload_n 0, 1) := by decide +kernel
theorem dX1_ridersIn_6 : decode cX1_ridersIn 6 = .ok (.getfield 39, 3) := by decide +kernel
theorem dX1_ridersIn_9 : decode cX1_ridersIn 9 = .ok (.if_icmp .ge 38, 3) := by decide +kernel
theorem dX1_ridersIn_12 : decode cX1_ridersIn 12 = .ok (.aload_n 0, 1) := by decide +kernel
theorem dX1_ridersIn_13 : decode cX1_ridersIn 13 = .ok (.iload_n 3, 1) := by decide +kernel
theorem dX1_ridersIn_14 : decode cX1_ridersIn 14 = .ok (.invokevirtual 54, 3) := by decide +kernel
theorem dX1_ridersIn_17 : decode cX1_ridersIn 17 = .ok (.astore 4, 2) := by decide +kernel
theorem dX1_ridersIn_19 : decode cX1_ridersIn 19 = .ok (.aload 4, 2) := by decide +kernel
theorem dX1_ridersIn_21 : decode cX1_ridersIn 21 = .ok (.ifnull 20, 3) := by decide +kernel
theorem dX1_ridersIn_24 : decode cX1_ridersIn 24 = .ok (.aload 4, 2) := by decide +kernel
theorem dX1_ridersIn_26 : decode cX1_ridersIn 26 = .ok (.getfield 103, 3) := by decide +kernel
theorem dX1_ridersIn_29 : decode cX1_ridersIn 29 = .ok (.iload_n 1, 1) := by decide +kernel
theorem dX1_ridersIn_30 : decode cX1_ridersIn 30 = .ok (.if_icmp .ne 11, 3) := by decide +kernel
theorem dX1_ridersIn_33 : decode cX1_ridersIn 33 = .ok (.iload_n 2, 1) := by decide +kernel
theorem dX1_ridersIn_34 : decode cX1_ridersIn 34 = .ok (.aload 4, 2) := by decide +kernel
theorem dX1_ridersIn_36 : decode cX1_ridersIn 36 = .ok (.getfield 159, 3) := by decide +kernel
theorem dX1_ridersIn_39 : decode cX1_ridersIn 39 = .ok (.iadd, 1) := by decide +kernel
theorem dX1_ridersIn_40 : decode cX1_ridersIn 40 = .ok (.istore_n 2, 1) := by decide +kernel
theorem dX1_ridersIn_41 : decode cX1_ridersIn 41 = .ok (.iinc 3 1, 3) := by decide +kernel
theorem dX1_ridersIn_44 : decode cX1_ridersIn 44 = .ok (.goto (-40), 3) := by decide +kernel
theorem dX1_ridersIn_47 : decode cX1_ridersIn 47 = .ok (.iload_n 2, 1) := by decide +kernel
theorem dX1_ridersIn_48 : decode cX1_ridersIn 48 = .ok (.ireturn, 1) := by decide +kernel
theorem dX1_greatestRank_0 : decode cX1_greatestRank 0 = .ok (.iconst (-1), 1) := by decide +kernel
theorem dX1_greatestRank_1 : decode cX1_greatestRank 1 = .ok (.istore_n 1, 1) := by decide +kernel
theorem dX1_greatestRank_2 : decode cX1_greatestRank 2 = .ok (.iconst 0, 1) := by decide +kernel
theorem dX1_greatestRank_3 : decode cX1_greatestRank 3 = .ok (.istore_n 2, 1) := by decide +kernel
theorem dX1_greatestRank_4 : decode cX1_greatestRank 4 = .ok (.iload_n 2, 1) := by decide +kernel
theorem dX1_greatestRank_5 : decode cX1_greatestRank 5 = .ok (.aload_n 0, 1) := by decide +kernel
theorem dX1_greatestRank_6 : decode cX1_greatestRank 6 = .ok (.getfield 39, 3) := by decide +kernel
theorem dX1_greatestRank_9 : decode cX1_greatestRank 9 = .ok (.if_icmp .ge 35, 3) := by decide +kernel
theorem dX1_greatestRank_12 : decode cX1_greatestRank 12 = .ok (.aload_n 0, 1) := by decide +kernel
theorem dX1_greatestRank_13 : decode cX1_greatestRank 13 = .ok (.iload_n 2, 1) := by decide +kernel
theorem dX1_greatestRank_14 : decode cX1_greatestRank 14 = .ok (.invokevirtual 54, 3) := by decide +kernel
theorem dX1_greatestRank_17 : decode cX1_greatestRank 17 = .ok (.astore_n 3, 1) := by decide +kernel
theorem dX1_greatestRank_18 : decode cX1_greatestRank 18 = .ok (.aload_n 3, 1) := by decide +kernel
theorem dX1_greatestRank_19 : decode cX1_greatestRank 19 = .ok (.ifnull 19, 3) := by decide +kernel
theorem dX1_greatestRank_22 : decode cX1_greatestRank 22 = .ok (.aload_n 3, 1) := by decide +kernel
theorem dX1_greatestRank_23 : decode cX1_greatestRank 23 = .ok (.getfield 103, 3) := by decide +kernel
theorem dX1_greatestRank_26 : decode cX1_greatestRank 26 = .ok (.ifCond .ne 12, 3) := by decide +kernel
theorem dX1_greatestRank_29 : decode cX1_greatestRank 29 = .ok (.iload_n 1, 1) := by decide +kernel
theorem dX1_greatestRank_30 : decode cX1_greatestRank 30 = .ok (.aload_n 3, 1) := by decide +kernel
theorem dX1_greatestRank_31 : decode cX1_greatestRank 31 = .ok (.invokevirtual 162, 3) := by decide +kernel
theorem dX1_greatestRank_34 : decode cX1_greatestRank 34 = .ok (.invokestatic 69, 3) := by decide +kernel
theorem dX1_greatestRank_37 : decode cX1_greatestRank 37 = .ok (.istore_n 1, 1) := by decide +kernel
theorem dX1_greatestRank_38 : decode cX1_greatestRank 38 = .ok (.iinc 2 1, 3) := by decide +kernel
theorem dX1_greatestRank_41 : decode cX1_greatestRank 41 = .ok (.goto (-37), 3) := by decide +kernel
theorem dX1_greatestRank_44 : decode cX1_greatestRank 44 = .ok (.iload_n 1, 1) := by decide +kernel
theorem dX1_greatestRank_45 : decode cX1_greatestRank 45 = .ok (.ireturn, 1) := by decide +kernel
theorem dX2_init_0 : decode cX2_init 0 = .ok (.aload_n 0, 1) := by decide +kernel
theorem dX2_init_1 : decode cX2_init 1 = .ok (.invokespecial 3, 3) := by decide +kernel
theorem dX2_init_4 : decode cX2_init 4 = .ok (.return_, 1) := by decide +kernel
theorem dX2_stand_0 : decode cX2_stand 0 = .ok (.aload_n 0, 1) := by decide +kernel
theorem dX2_stand_1 : decode cX2_stand 1 = .ok (.iload_n 1, 1) := by decide +kernel
theorem dX2_stand_2 : decode cX2_stand 2 = .ok (.putfield 9, 3) := by decide +kernel
theorem dX2_stand_5 : decode cX2_stand 5 = .ok (.aload_n 0, 1) := by decide +kernel
theorem dX2_stand_6 : decode cX2_stand 6 = .ok (.iload_n 2, 1) := by decide +kernel
theorem dX2_stand_7 : decode cX2_stand 7 = .ok (.putfield 15, 3) := by decide +kernel
theorem dX2_stand_10 : decode cX2_stand 10 = .ok (.aload_n 0, 1) := by decide +kernel
theorem dX2_stand_11 : decode cX2_stand 11 = .ok (.iconst 0, 1) := by decide +kernel
theorem dX2_stand_12 : decode cX2_stand 12 = .ok (.putfield 18, 3) := by decide +kernel
theorem dX2_stand_15 : decode cX2_stand 15 = .ok (.aload_n 0, 1) := by decide +kernel
theorem dX2_stand_16 : decode cX2_stand 16 = .ok (.iconst 0, 1) := by decide +kernel
theorem dX2_stand_17 : decode cX2_stand 17 = .ok (.putfield 21, 3) := by decide +kernel
theorem dX2_stand_20 : decode cX2_stand 20 = .ok (.aload_n 0, 1) := by decide +kernel
theorem dX2_stand_21 : decode cX2_stand 21 = .ok (.iconst 0, 1) := by decide +kernel
theorem dX2_stand_22 : decode cX2_stand 22 = .ok (.putfield 24, 3) := by decide +kernel
theorem dX2_stand_25 : decode cX2_stand 25 = .ok (.aload_n 0, 1) := by decide +kernel
theorem dX2_stand_26 : decode cX2_stand 26 = .ok (.invokevirtual 27, 3) := by decide +kernel
theorem dX2_stand_29 : decode cX2_stand 29 = .ok (.return_, 1) := by decide +kernel
theorem dX2_beIdle_0 : decode cX2_beIdle 0 = .ok (.aload_n 0, 1) := by decide +kernel
theorem dX2_beIdle_1 : decode cX2_beIdle 1 = .ok (.iconst 0, 1) := by decide +kernel
theorem dX2_beIdle_2 : decode cX2_beIdle 2 = .ok (.putfield 30, 3) := by decide +kernel
theorem dX2_beIdle_5 : decode cX2_beIdle 5 = .ok (.aload_n 0, 1) := by decide +kernel
theorem dX2_beIdle_6 : decode cX2_beIdle 6 = .ok (.iconst 0, 1) := by decide +kernel
theorem dX2_beIdle_7 : decode cX2_beIdle 7 = .ok (.putfield 33, 3) := by decide +kernel
theorem dX2_beIdle_10 : decode cX2_beIdle 10 = .ok (.aload_n 0, 1) := by decide +kernel
theorem dX2_beIdle_11 : decode cX2_beIdle 11 = .ok (.iconst (-1), 1) := by decide +kernel
theorem dX2_beIdle_12 : decode cX2_beIdle 12 = .ok (.putfield 36, 3) := by decide +kernel
theorem dX2_beIdle_15 : decode cX2_beIdle 15 = .ok (.return_, 1) := by decide +kernel
theorem dX2_copyFrom_0 : decode cX2_copyFrom 0 = .ok (.aload_n 0, 1) := by decide +kernel
theorem dX2_copyFrom_1 : decode cX2_copyFrom 1 = .ok (.aload_n 1, 1) := by decide +kernel
theorem dX2_copyFrom_2 : decode cX2_copyFrom 2 = .ok (.getfield 9, 3) := by decide +kernel
theorem dX2_copyFrom_5 : decode cX2_copyFrom 5 = .ok (.putfield 9, 3) := by decide +kernel
theorem dX2_copyFrom_8 : decode cX2_copyFrom 8 = .ok (.aload_n 0, 1) := by decide +kernel
theorem dX2_copyFrom_9 : decode cX2_copyFrom 9 = .ok (.aload_n 1, 1) := by decide +kernel
theorem dX2_copyFrom_10 : decode cX2_copyFrom 10 = .ok (.getfield 15, 3) := by decide +kernel
theorem dX2_copyFrom_13 : decode cX2_copyFrom 13 = .ok (.putfield 15, 3) := by decide +kernel
theorem dX2_copyFrom_16 : decode cX2_copyFrom 16 = .ok (.aload_n 0, 1) := by decide +kernel
theorem dX2_copyFrom_17 : decode cX2_copyFrom 17 = .ok (.aload_n 1, 1) := by decide +kernel
theorem dX2_copyFrom_18 : decode cX2_copyFrom 18 = .ok (.getfield 30, 3) := by decide +kernel
theorem dX2_copyFrom_21 : decode cX2_copyFrom 21 = .ok (.putfield 30, 3) := by decide +kernel
theorem dX2_copyFrom_24 : decode cX2_copyFrom 24 = .ok (.aload_n 0, 1) := by decide +kernel
theorem dX2_copyFrom_25 : decode cX2_copyFrom 25 = .ok (.aload_n 1, 1) := by decide +kernel
theorem dX2_copyFrom_26 : decode cX2_copyFrom 26 = .ok (.getfield 33, 3) := by decide +kernel
theorem dX2_copyFrom_29 : decode cX2_copyFrom 29 = .ok (.putfield 33, 3) := by decide +kernel
theorem dX2_copyFrom_32 : decode cX2_copyFrom 32 = .ok (.aload_n 0, 1) := by decide +kernel
theorem dX2_copyFrom_33 : decode cX2_copyFrom 33 = .ok (.aload_n 1, 1) := by decide +kernel
theorem dX2_copyFrom_34 : decode cX2_copyFrom 34 = .ok (.getfield 36, 3) := by decide +kernel
theorem dX2_copyFrom_37 : decode cX2_copyFrom 37 = .ok (.putfield 36, 3) := by decide +kernel
theorem dX2_copyFrom_40 : decode cX2_copyFrom 40 = .ok (.aload_n 0, 1) := by decide +kernel
theorem dX2_copyFrom_41 : decode cX2_copyFrom 41 = .ok (.aload_n 1, 1) := by decide +kernel
theorem dX2_copyFrom_42 : decode cX2_copyFrom 42 = .ok (.getfield 18, 3) := by decide +kernel
theorem dX2_copyFrom_45 : decode cX2_copyFrom 45 = .ok (.putfield 18, 3) := by decide +kernel
theorem dX2_copyFrom_48 : decode cX2_copyFrom 48 = .ok (.aload_n 0, 1) := by decide +kernel
theorem dX2_copyFrom_49 : decode cX2_copyFrom 49 = .ok (.aload_n 1, 1) := by decide +kernel
theorem dX2_copyFrom_50 : decode cX2_copyFrom 50 = .ok (.getfield 21, 3) := by decide +kernel
theorem dX2_copyFrom_53 : decode cX2_copyFrom 53 = .ok (.putfield 21, 3) := by decide +kernel
theorem dX2_copyFrom_56 : decode cX2_copyFrom 56 = .ok (.aload_n 0, 1) := by decide +kernel
theorem dX2_copyFrom_57 : decode cX2_copyFrom 57 = .ok (.aload_n 1, 1) := by decide +kernel
theorem dX2_copyFrom_58 : decode cX2_copyFrom 58 = .ok (.getfield 24, 3) := by decide +kernel
theorem dX2_copyFrom_61 : decode cX2_copyFrom 61 = .ok (.putfield 24, 3) := by decide +kernel
theorem dX2_copyFrom_64 : decode cX2_copyFrom 64 = .ok (.return_, 1) := by decide +kernel
theorem dX2_fact_0 : decode cX2_fact 0 = .ok (.iload_n 1, 1) := by decide +kernel
theorem dX2_fact_1 : decode cX2_fact 1 = .ok (.tableswitch 78 0 6 #[43, 48, 53, 58, 63, 68, 73], 43) := by decide +kernel
theorem dX2_fact_44 : decode cX2_fact 44 = .ok (.aload_n 0, 1) := by decide +kernel
theorem dX2_fact_45 : decode cX2_fact 45 = .ok (.getfield 9, 3) := by decide +kernel
theorem dX2_fact_48 : decode cX2_fact 48 = .ok (.ireturn, 1) := by decide +kernel
theorem dX2_fact_49 : decode cX2_fact 49 = .ok (.aload_n 0, 1) := by decide +kernel
theorem dX2_fact_50 : decode cX2_fact 50 = .ok (.getfield 15, 3) := by decide +kernel
theorem dX2_fact_53 : decode cX2_fact 53 = .ok (.ireturn, 1) := by decide +kernel
theorem dX2_fact_54 : decode cX2_fact 54 = .ok (.aload_n 0, 1) := by decide +kernel
theorem dX2_fact_55 : decode cX2_fact 55 = .ok (.getfield 30, 3) := by decide +kernel
theorem dX2_fact_58 : decode cX2_fact 58 = .ok (.ireturn, 1) := by decide +kernel
theorem dX2_fact_59 : decode cX2_fact 59 = .ok (.aload_n 0, 1) := by decide +kernel
theorem dX2_fact_60 : decode cX2_fact 60 = .ok (.getfield 33, 3) := by decide +kernel
theorem dX2_fact_63 : decode cX2_fact 63 = .ok (.ireturn, 1) := by decide +kernel
theorem dX2_fact_64 : decode cX2_fact 64 = .ok (.aload_n 0, 1) := by decide +kernel
theorem dX2_fact_65 : decode cX2_fact 65 = .ok (.getfield 36, 3) := by decide +kernel
theorem dX2_fact_68 : decode cX2_fact 68 = .ok (.ireturn, 1) := by decide +kernel
theorem dX2_fact_69 : decode cX2_fact 69 = .ok (.aload_n 0, 1) := by decide +kernel
theorem dX2_fact_70 : decode cX2_fact 70 = .ok (.getfield 18, 3) := by decide +kernel
theorem dX2_fact_73 : decode cX2_fact 73 = .ok (.ireturn, 1) := by decide +kernel
theorem dX2_fact_74 : decode cX2_fact 74 = .ok (.aload_n 0, 1) := by decide +kernel
theorem dX2_fact_75 : decode cX2_fact 75 = .ok (.getfield 21, 3) := by decide +kernel
theorem dX2_fact_78 : decode cX2_fact 78 = .ok (.ireturn, 1) := by decide +kernel
theorem dX2_fact_79 : decode cX2_fact 79 = .ok (.aload_n 0, 1) := by decide +kernel
theorem dX2_fact_80 : decode cX2_fact 80 = .ok (.getfield 24, 3) := by decide +kernel
theorem dX2_fact_83 : decode cX2_fact 83 = .ok (.ireturn, 1) := by decide +kernel
theorem dX3_init_0 : decode cX3_init 0 = .ok (.aload_n 0, 1) := by decide +kernel
theorem dX3_init_1 : decode cX3_init 1 = .ok (.invokespecial 1, 3) := by decide +kernel
theorem dX3_init_4 : decode cX3_init 4 = .ok (.aload_n 0, 1) := by decide +kernel
theorem dX3_init_5 : decode cX3_init 5 = .ok (.new 7, 3) := by decide +kernel
theorem dX3_init_8 : decode cX3_init 8 = .ok (.dup, 1) := by decide +kernel
theorem dX3_init_9 : decode cX3_init 9 = .ok (.invokespecial 9, 3) := by decide +kernel
theorem dX3_init_12 : decode cX3_init 12 = .ok (.putfield 10, 3) := by decide +kernel
theorem dX3_init_15 : decode cX3_init 15 = .ok (.aload_n 0, 1) := by decide +kernel
theorem dX3_init_16 : decode cX3_init 16 = .ok (.getfield 10, 3) := by decide +kernel
theorem dX3_init_19 : decode cX3_init 19 = .ok (.iconst 3, 1) := by decide +kernel
theorem dX3_init_20 : decode cX3_init 20 = .ok (.invokevirtual 16, 3) := by decide +kernel
theorem dX3_init_23 : decode cX3_init 23 = .ok (.aload_n 0, 1) := by decide +kernel
theorem dX3_init_24 : decode cX3_init 24 = .ok (.new 7, 3) := by decide +kernel
theorem dX3_init_27 : decode cX3_init 27 = .ok (.dup, 1) := by decide +kernel
theorem dX3_init_28 : decode cX3_init 28 = .ok (.invokespecial 9, 3) := by decide +kernel
theorem dX3_init_31 : decode cX3_init 31 = .ok (.putfield 20, 3) := by decide +kernel
theorem dX3_init_34 : decode cX3_init 34 = .ok (.aload_n 0, 1) := by decide +kernel
theorem dX3_init_35 : decode cX3_init 35 = .ok (.iconst 4, 1) := by decide +kernel
theorem dX3_init_36 : decode cX3_init 36 = .ok (.anewarray 7, 3) := by decide +kernel
theorem dX3_init_39 : decode cX3_init 39 = .ok (.putfield 23, 3) := by decide +kernel
theorem dX3_init_42 : decode cX3_init 42 = .ok (.iconst 0, 1) := by decide +kernel
theorem dX3_init_43 : decode cX3_init 43 = .ok (.istore_n 1, 1) := by decide +kernel
theorem dX3_init_44 : decode cX3_init 44 = .ok (.iload_n 1, 1) := by decide +kernel
theorem dX3_init_45 : decode cX3_init 45 = .ok (.aload_n 0, 1) := by decide +kernel
theorem dX3_init_46 : decode cX3_init 46 = .ok (.getfield 23, 3) := by decide +kernel
theorem dX3_init_49 : decode cX3_init 49 = .ok (.arraylength, 1) := by decide +kernel
theorem dX3_init_50 : decode cX3_init 50 = .ok (.if_icmp .ge 22, 3) := by decide +kernel
theorem dX3_init_53 : decode cX3_init 53 = .ok (.aload_n 0, 1) := by decide +kernel
theorem dX3_init_54 : decode cX3_init 54 = .ok (.getfield 23, 3) := by decide +kernel
theorem dX3_init_57 : decode cX3_init 57 = .ok (.iload_n 1, 1) := by decide +kernel
theorem dX3_init_58 : decode cX3_init 58 = .ok (.new 7, 3) := by decide +kernel
theorem dX3_init_61 : decode cX3_init 61 = .ok (.dup, 1) := by decide +kernel
theorem dX3_init_62 : decode cX3_init 62 = .ok (.invokespecial 9, 3) := by decide +kernel
theorem dX3_init_65 : decode cX3_init 65 = .ok (.aastore, 1) := by decide +kernel
theorem dX3_init_66 : decode cX3_init 66 = .ok (.iinc 1 1, 3) := by decide +kernel
theorem dX3_init_69 : decode cX3_init 69 = .ok (.goto (-25), 3) := by decide +kernel
theorem dX3_init_72 : decode cX3_init 72 = .ok (.aload_n 0, 1) := by decide +kernel
theorem dX3_init_73 : decode cX3_init 73 = .ok (.bipush 100, 2) := by decide +kernel
theorem dX3_init_75 : decode cX3_init 75 = .ok (.newarray .int, 2) := by decide +kernel
theorem dX3_init_77 : decode cX3_init 77 = .ok (.putfield 27, 3) := by decide +kernel
theorem dX3_init_80 : decode cX3_init 80 = .ok (.return_, 1) := by decide +kernel
theorem dX3_addChair_0 : decode cX3_addChair 0 = .ok (.aload_n 0, 1) := by decide +kernel
theorem dX3_addChair_1 : decode cX3_addChair 1 = .ok (.getfield 10, 3) := by decide +kernel
theorem dX3_addChair_4 : decode cX3_addChair 4 = .ok (.iload_n 1, 1) := by decide +kernel
theorem dX3_addChair_5 : decode cX3_addChair 5 = .ok (.invokevirtual 31, 3) := by decide +kernel
theorem dX3_addChair_8 : decode cX3_addChair 8 = .ok (.ifCond .ne 13, 3) := by decide +kernel
theorem dX3_addChair_11 : decode cX3_addChair 11 = .ok (.new 35, 3) := by decide +kernel
theorem dX3_addChair_14 : decode cX3_addChair 14 = .ok (.dup, 1) := by decide +kernel
theorem dX3_addChair_15 : decode cX3_addChair 15 = .ok (.ldc 37, 2) := by decide +kernel
theorem dX3_addChair_17 : decode cX3_addChair 17 = .ok (.invokespecial 39, 3) := by decide +kernel
theorem dX3_addChair_20 : decode cX3_addChair 20 = .ok (.athrow, 1) := by decide +kernel
theorem dX3_addChair_21 : decode cX3_addChair 21 = .ok (.iload_n 2, 1) := by decide +kernel
theorem dX3_addChair_22 : decode cX3_addChair 22 = .ok (.iconst 1, 1) := by decide +kernel
theorem dX3_addChair_23 : decode cX3_addChair 23 = .ok (.if_icmp .lt 18, 3) := by decide +kernel
theorem dX3_addChair_26 : decode cX3_addChair 26 = .ok (.iload_n 2, 1) := by decide +kernel
theorem dX3_addChair_27 : decode cX3_addChair 27 = .ok (.iconst 4, 1) := by decide +kernel
theorem dX3_addChair_28 : decode cX3_addChair 28 = .ok (.if_icmp .gt 13, 3) := by decide +kernel
theorem dX3_addChair_31 : decode cX3_addChair 31 = .ok (.iload_n 3, 1) := by decide +kernel
theorem dX3_addChair_32 : decode cX3_addChair 32 = .ok (.ifCond .lt 9, 3) := by decide +kernel
theorem dX3_addChair_35 : decode cX3_addChair 35 = .ok (.iload_n 3, 1) := by decide +kernel
theorem dX3_addChair_36 : decode cX3_addChair 36 = .ok (.bipush 20, 2) := by decide +kernel
theorem dX3_addChair_38 : decode cX3_addChair 38 = .ok (.if_icmp .le 13, 3) := by decide +kernel
theorem dX3_addChair_41 : decode cX3_addChair 41 = .ok (.new 42, 3) := by decide +kernel
theorem dX3_addChair_44 : decode cX3_addChair 44 = .ok (.dup, 1) := by decide +kernel
theorem dX3_addChair_45 : decode cX3_addChair 45 = .ok (.ldc 44, 2) := by decide +kernel
theorem dX3_addChair_47 : decode cX3_addChair 47 = .ok (.invokespecial 46, 3) := by decide +kernel
theorem dX3_addChair_50 : decode cX3_addChair 50 = .ok (.athrow, 1) := by decide +kernel
theorem dX3_addChair_51 : decode cX3_addChair 51 = .ok (.aload_n 0, 1) := by decide +kernel
theorem dX3_addChair_52 : decode cX3_addChair 52 = .ok (.getfield 10, 3) := by decide +kernel
theorem dX3_addChair_55 : decode cX3_addChair 55 = .ok (.getfield 47, 3) := by decide +kernel
theorem dX3_addChair_58 : decode cX3_addChair 58 = .ok (.bipush 14, 2) := by decide +kernel
theorem dX3_addChair_60 : decode cX3_addChair 60 = .ok (.if_icmp .lt 13, 3) := by decide +kernel
theorem dX3_addChair_63 : decode cX3_addChair 63 = .ok (.new 51, 3) := by decide +kernel
theorem dX3_addChair_66 : decode cX3_addChair 66 = .ok (.dup, 1) := by decide +kernel
theorem dX3_addChair_67 : decode cX3_addChair 67 = .ok (.ldc 53, 2) := by decide +kernel
theorem dX3_addChair_69 : decode cX3_addChair 69 = .ok (.invokespecial 55, 3) := by decide +kernel
theorem dX3_addChair_72 : decode cX3_addChair 72 = .ok (.athrow, 1) := by decide +kernel
theorem dX3_addChair_73 : decode cX3_addChair 73 = .ok (.aload_n 0, 1) := by decide +kernel
theorem dX3_addChair_74 : decode cX3_addChair 74 = .ok (.invokevirtual 56, 3) := by decide +kernel
theorem dX3_addChair_77 : decode cX3_addChair 77 = .ok (.aload_n 0, 1) := by decide +kernel
theorem dX3_addChair_78 : decode cX3_addChair 78 = .ok (.getfield 10, 3) := by decide +kernel
theorem dX3_addChair_81 : decode cX3_addChair 81 = .ok (.iload_n 1, 1) := by decide +kernel
theorem dX3_addChair_82 : decode cX3_addChair 82 = .ok (.iload_n 2, 1) := by decide +kernel
theorem dX3_addChair_83 : decode cX3_addChair 83 = .ok (.iload_n 3, 1) := by decide +kernel
theorem dX3_addChair_84 : decode cX3_addChair 84 = .ok (.iload 4, 2) := by decide +kernel
theorem dX3_addChair_86 : decode cX3_addChair 86 = .ok (.invokevirtual 59, 3) := by decide +kernel
theorem dX3_addChair_89 : decode cX3_addChair 89 = .ok (.ireturn, 1) := by decide +kernel
theorem dX3_addTeam_0 : decode cX3_addTeam 0 = .ok (.aload_n 0, 1) := by decide +kernel
theorem dX3_addTeam_1 : decode cX3_addTeam 1 = .ok (.getfield 10, 3) := by decide +kernel
theorem dX3_addTeam_4 : decode cX3_addTeam 4 = .ok (.iload_n 1, 1) := by decide +kernel
theorem dX3_addTeam_5 : decode cX3_addTeam 5 = .ok (.invokevirtual 31, 3) := by decide +kernel
theorem dX3_addTeam_8 : decode cX3_addTeam 8 = .ok (.ifCond .ne 13, 3) := by decide +kernel
theorem dX3_addTeam_11 : decode cX3_addTeam 11 = .ok (.new 35, 3) := by decide +kernel
theorem dX3_addTeam_14 : decode cX3_addTeam 14 = .ok (.dup, 1) := by decide +kernel
theorem dX3_addTeam_15 : decode cX3_addTeam 15 = .ok (.ldc 37, 2) := by decide +kernel
theorem dX3_addTeam_17 : decode cX3_addTeam 17 = .ok (.invokespecial 39, 3) := by decide +kernel
theorem dX3_addTeam_20 : decode cX3_addTeam 20 = .ok (.athrow, 1) := by decide +kernel
theorem dX3_addTeam_21 : decode cX3_addTeam 21 = .ok (.iload_n 2, 1) := by decide +kernel
theorem dX3_addTeam_22 : decode cX3_addTeam 22 = .ok (.ifCond .lt 9, 3) := by decide +kernel
theorem dX3_addTeam_25 : decode cX3_addTeam 25 = .ok (.iload_n 2, 1) := by decide +kernel
theorem dX3_addTeam_26 : decode cX3_addTeam 26 = .ok (.bipush 30, 2) := by decide +kernel
theorem dX3_addTeam_28 : decode cX3_addTeam 28 = .ok (.if_icmp .le 13, 3) := by decide +kernel
theorem dX3_addTeam_31 : decode cX3_addTeam 31 = .ok (.new 42, 3) := by decide +kernel
theorem dX3_addTeam_34 : decode cX3_addTeam 34 = .ok (.dup, 1) := by decide +kernel
theorem dX3_addTeam_35 : decode cX3_addTeam 35 = .ok (.ldc 63, 2) := by decide +kernel
theorem dX3_addTeam_37 : decode cX3_addTeam 37 = .ok (.invokespecial 46, 3) := by decide +kernel
theorem dX3_addTeam_40 : decode cX3_addTeam 40 = .ok (.athrow, 1) := by decide +kernel
theorem dX3_addTeam_41 : decode cX3_addTeam 41 = .ok (.aload_n 0, 1) := by decide +kernel
theorem dX3_addTeam_42 : decode cX3_addTeam 42 = .ok (.getfield 10, 3) := by decide +kernel
theorem dX3_addTeam_45 : decode cX3_addTeam 45 = .ok (.getfield 65, 3) := by decide +kernel
theorem dX3_addTeam_48 : decode cX3_addTeam 48 = .ok (.iconst 4, 1) := by decide +kernel
theorem dX3_addTeam_49 : decode cX3_addTeam 49 = .ok (.if_icmp .lt 13, 3) := by decide +kernel
theorem dX3_addTeam_52 : decode cX3_addTeam 52 = .ok (.new 51, 3) := by decide +kernel
theorem dX3_addTeam_55 : decode cX3_addTeam 55 = .ok (.dup, 1) := by decide +kernel
theorem dX3_addTeam_56 : decode cX3_addTeam 56 = .ok (.ldc 68, 2) := by decide +kernel
theorem dX3_addTeam_58 : decode cX3_addTeam 58 = .ok (.invokespecial 55, 3) := by decide +kernel
theorem dX3_addTeam_61 : decode cX3_addTeam 61 = .ok (.athrow, 1) := by decide +kernel
theorem dX3_addTeam_62 : decode cX3_addTeam 62 = .ok (.aload_n 0, 1) := by decide +kernel
theorem dX3_addTeam_63 : decode cX3_addTeam 63 = .ok (.invokevirtual 56, 3) := by decide +kernel
theorem dX3_addTeam_66 : decode cX3_addTeam 66 = .ok (.aload_n 0, 1) := by decide +kernel
theorem dX3_addTeam_67 : decode cX3_addTeam 67 = .ok (.getfield 10, 3) := by decide +kernel
theorem dX3_addTeam_70 : decode cX3_addTeam 70 = .ok (.iload_n 1, 1) := by decide +kernel
theorem dX3_addTeam_71 : decode cX3_addTeam 71 = .ok (.iload_n 2, 1) := by decide +kernel
theorem dX3_addTeam_72 : decode cX3_addTeam 72 = .ok (.invokevirtual 70, 3) := by decide +kernel
theorem dX3_addTeam_75 : decode cX3_addTeam 75 = .ok (.ireturn, 1) := by decide +kernel
theorem dX3_setWay_0 : decode cX3_setWay 0 = .ok (.aload_n 0, 1) := by decide +kernel
theorem dX3_setWay_1 : decode cX3_setWay 1 = .ok (.getfield 10, 3) := by decide +kernel
theorem dX3_setWay_4 : decode cX3_setWay 4 = .ok (.iload_n 1, 1) := by decide +kernel
theorem dX3_setWay_5 : decode cX3_setWay 5 = .ok (.invokevirtual 74, 3) := by decide +kernel
theorem dX3_setWay_8 : decode cX3_setWay 8 = .ok (.ifCond .ne 13, 3) := by decide +kernel
theorem dX3_setWay_11 : decode cX3_setWay 11 = .ok (.new 35, 3) := by decide +kernel
theorem dX3_setWay_14 : decode cX3_setWay 14 = .ok (.dup, 1) := by decide +kernel
theorem dX3_setWay_15 : decode cX3_setWay 15 = .ok (.ldc 77, 2) := by decide +kernel
theorem dX3_setWay_17 : decode cX3_setWay 17 = .ok (.invokespecial 39, 3) := by decide +kernel
theorem dX3_setWay_20 : decode cX3_setWay 20 = .ok (.athrow, 1) := by decide +kernel
theorem dX3_setWay_21 : decode cX3_setWay 21 = .ok (.iload_n 2, 1) := by decide +kernel
theorem dX3_setWay_22 : decode cX3_setWay 22 = .ok (.iconst 1, 1) := by decide +kernel
theorem dX3_setWay_23 : decode cX3_setWay 23 = .ok (.if_icmp .lt 9, 3) := by decide +kernel
theorem dX3_setWay_26 : decode cX3_setWay 26 = .ok (.iload_n 2, 1) := by decide +kernel
theorem dX3_setWay_27 : decode cX3_setWay 27 = .ok (.bipush 20, 2) := by decide +kernel
theorem dX3_setWay_29 : decode cX3_setWay 29 = .ok (.if_icmp .le 13, 3) := by decide +kernel
theorem dX3_setWay_32 : decode cX3_setWay 32 = .ok (.new 42, 3) := by decide +kernel
theorem dX3_setWay_35 : decode cX3_setWay 35 = .ok (.dup, 1) := by decide +kernel
theorem dX3_setWay_36 : decode cX3_setWay 36 = .ok (.ldc 79, 2) := by decide +kernel
theorem dX3_setWay_38 : decode cX3_setWay 38 = .ok (.invokespecial 46, 3) := by decide +kernel
theorem dX3_setWay_41 : decode cX3_setWay 41 = .ok (.athrow, 1) := by decide +kernel
theorem dX3_setWay_42 : decode cX3_setWay 42 = .ok (.aload_n 0, 1) := by decide +kernel
theorem dX3_setWay_43 : decode cX3_setWay 43 = .ok (.invokevirtual 56, 3) := by decide +kernel
theorem dX3_setWay_46 : decode cX3_setWay 46 = .ok (.aload_n 0, 1) := by decide +kernel
theorem dX3_setWay_47 : decode cX3_setWay 47 = .ok (.getfield 10, 3) := by decide +kernel
theorem dX3_setWay_50 : decode cX3_setWay 50 = .ok (.iload_n 1, 1) := by decide +kernel
theorem dX3_setWay_51 : decode cX3_setWay 51 = .ok (.invokevirtual 81, 3) := by decide +kernel
theorem dX3_setWay_54 : decode cX3_setWay 54 = .ok (.istore_n 3, 1) := by decide +kernel
theorem dX3_setWay_55 : decode cX3_setWay 55 = .ok (.aload_n 0, 1) := by decide +kernel
theorem dX3_setWay_56 : decode cX3_setWay 56 = .ok (.getfield 10, 3) := by decide +kernel
theorem dX3_setWay_59 : decode cX3_setWay 59 = .ok (.iload_n 1, 1) := by decide +kernel
theorem dX3_setWay_60 : decode cX3_setWay 60 = .ok (.iload_n 2, 1) := by decide +kernel
theorem dX3_setWay_61 : decode cX3_setWay 61 = .ok (.invokevirtual 85, 3) := by decide +kernel
theorem dX3_setWay_64 : decode cX3_setWay 64 = .ok (.iload_n 3, 1) := by decide +kernel
theorem dX3_setWay_65 : decode cX3_setWay 65 = .ok (.ireturn, 1) := by decide +kernel
theorem dX3_setCold_0 : decode cX3_setCold 0 = .ok (.aload_n 0, 1) := by decide +kernel
theorem dX3_setCold_1 : decode cX3_setCold 1 = .ok (.getfield 10, 3) := by decide +kernel
theorem dX3_setCold_4 : decode cX3_setCold 4 = .ok (.iload_n 1, 1) := by decide +kernel
theorem dX3_setCold_5 : decode cX3_setCold 5 = .ok (.invokevirtual 89, 3) := by decide +kernel
theorem dX3_setCold_8 : decode cX3_setCold 8 = .ok (.astore_n 3, 1) := by decide +kernel
theorem dX3_setCold_9 : decode cX3_setCold 9 = .ok (.aload_n 3, 1) := by decide +kernel
theorem dX3_setCold_10 : decode cX3_setCold 10 = .ok (.ifnonnull 13, 3) := by decide +kernel
theorem dX3_setCold_13 : decode cX3_setCold 13 = .ok (.new 35, 3) := by decide +kernel
theorem dX3_setCold_16 : decode cX3_setCold 16 = .ok (.dup, 1) := by decide +kernel
theorem dX3_setCold_17 : decode cX3_setCold 17 = .ok (.ldc 93, 2) := by decide +kernel
theorem dX3_setCold_19 : decode cX3_setCold 19 = .ok (.invokespecial 39, 3) := by decide +kernel
theorem dX3_setCold_22 : decode cX3_setCold 22 = .ok (.athrow, 1) := by decide +kernel
theorem dX3_setCold_23 : decode cX3_setCold 23 = .ok (.iload_n 2, 1) := by decide +kernel
theorem dX3_setCold_24 : decode cX3_setCold 24 = .ok (.ifCond .lt 9, 3) := by decide +kernel
theorem dX3_setCold_27 : decode cX3_setCold 27 = .ok (.iload_n 2, 1) := by decide +kernel
theorem dX3_setCold_28 : decode cX3_setCold 28 = .ok (.bipush 20, 2) := by decide +kernel
theorem dX3_setCold_30 : decode cX3_setCold 30 = .ok (.if_icmp .le 13, 3) := by decide +kernel
theorem dX3_setCold_33 : decode cX3_setCold 33 = .ok (.new 42, 3) := by decide +kernel
theorem dX3_setCold_36 : decode cX3_setCold 36 = .ok (.dup, 1) := by decide +kernel
theorem dX3_setCold_37 : decode cX3_setCold 37 = .ok (.ldc 95, 2) := by decide +kernel
theorem dX3_setCold_39 : decode cX3_setCold 39 = .ok (.invokespecial 46, 3) := by decide +kernel
theorem dX3_setCold_42 : decode cX3_setCold 42 = .ok (.athrow, 1) := by decide +kernel
theorem dX3_setCold_43 : decode cX3_setCold 43 = .ok (.aload_n 3, 1) := by decide +kernel
theorem dX3_setCold_44 : decode cX3_setCold 44 = .ok (.getfield 97, 3) := by decide +kernel
theorem dX3_setCold_47 : decode cX3_setCold 47 = .ok (.iconst 2, 1) := by decide +kernel
theorem dX3_setCold_48 : decode cX3_setCold 48 = .ok (.if_icmp .ne 13, 3) := by decide +kernel
theorem dX3_setCold_51 : decode cX3_setCold 51 = .ok (.new 51, 3) := by decide +kernel
theorem dX3_setCold_54 : decode cX3_setCold 54 = .ok (.dup, 1) := by decide +kernel
theorem dX3_setCold_55 : decode cX3_setCold 55 = .ok (.ldc 102, 2) := by decide +kernel
theorem dX3_setCold_57 : decode cX3_setCold 57 = .ok (.invokespecial 55, 3) := by decide +kernel
theorem dX3_setCold_60 : decode cX3_setCold 60 = .ok (.athrow, 1) := by decide +kernel
theorem dX3_setCold_61 : decode cX3_setCold 61 = .ok (.aload_n 0, 1) := by decide +kernel
theorem dX3_setCold_62 : decode cX3_setCold 62 = .ok (.invokevirtual 56, 3) := by decide +kernel
theorem dX3_setCold_65 : decode cX3_setCold 65 = .ok (.aload_n 3, 1) := by decide +kernel
theorem dX3_setCold_66 : decode cX3_setCold 66 = .ok (.getfield 104, 3) := by decide +kernel
theorem dX3_setCold_69 : decode cX3_setCold 69 = .ok (.istore 4, 2) := by decide +kernel
theorem dX3_setCold_71 : decode cX3_setCold 71 = .ok (.aload_n 3, 1) := by decide +kernel
theorem dX3_setCold_72 : decode cX3_setCold 72 = .ok (.iload_n 2, 1) := by decide +kernel
theorem dX3_setCold_73 : decode cX3_setCold 73 = .ok (.putfield 104, 3) := by decide +kernel
theorem dX3_setCold_76 : decode cX3_setCold 76 = .ok (.iload 4, 2) := by decide +kernel
theorem dX3_setCold_78 : decode cX3_setCold 78 = .ok (.ireturn, 1) := by decide +kernel
theorem dX3_callOff_0 : decode cX3_callOff 0 = .ok (.aload_n 0, 1) := by decide +kernel
theorem dX3_callOff_1 : decode cX3_callOff 1 = .ok (.getfield 10, 3) := by decide +kernel
theorem dX3_callOff_4 : decode cX3_callOff 4 = .ok (.iload_n 1, 1) := by decide +kernel
theorem dX3_callOff_5 : decode cX3_callOff 5 = .ok (.invokevirtual 107, 3) := by decide +kernel
theorem dX3_callOff_8 : decode cX3_callOff 8 = .ok (.astore_n 2, 1) := by decide +kernel
theorem dX3_callOff_9 : decode cX3_callOff 9 = .ok (.aload_n 2, 1) := by decide +kernel
theorem dX3_callOff_10 : decode cX3_callOff 10 = .ok (.ifnonnull 13, 3) := by decide +kernel
theorem dX3_callOff_13 : decode cX3_callOff 13 = .ok (.new 35, 3) := by decide +kernel
theorem dX3_callOff_16 : decode cX3_callOff 16 = .ok (.dup, 1) := by decide +kernel
theorem dX3_callOff_17 : decode cX3_callOff 17 = .ok (.ldc 111, 2) := by decide +kernel
theorem dX3_callOff_19 : decode cX3_callOff 19 = .ok (.invokespecial 39, 3) := by decide +kernel
theorem dX3_callOff_22 : decode cX3_callOff 22 = .ok (.athrow, 1) := by decide +kernel
theorem dX3_callOff_23 : decode cX3_callOff 23 = .ok (.aload_n 0, 1) := by decide +kernel
theorem dX3_callOff_24 : decode cX3_callOff 24 = .ok (.invokevirtual 56, 3) := by decide +kernel
theorem dX3_callOff_27 : decode cX3_callOff 27 = .ok (.aload_n 2, 1) := by decide +kernel
theorem dX3_callOff_28 : decode cX3_callOff 28 = .ok (.getfield 113, 3) := by decide +kernel
theorem dX3_callOff_31 : decode cX3_callOff 31 = .ok (.istore_n 3, 1) := by decide +kernel
theorem dX3_callOff_32 : decode cX3_callOff 32 = .ok (.aload_n 0, 1) := by decide +kernel
theorem dX3_callOff_33 : decode cX3_callOff 33 = .ok (.getfield 10, 3) := by decide +kernel
theorem dX3_callOff_36 : decode cX3_callOff 36 = .ok (.iload_n 3, 1) := by decide +kernel
theorem dX3_callOff_37 : decode cX3_callOff 37 = .ok (.invokevirtual 89, 3) := by decide +kernel
theorem dX3_callOff_40 : decode cX3_callOff 40 = .ok (.astore 4, 2) := by decide +kernel
theorem dX3_callOff_42 : decode cX3_callOff 42 = .ok (.aload 4, 2) := by decide +kernel
theorem dX3_callOff_44 : decode cX3_callOff 44 = .ok (.ifnull 8, 3) := by decide +kernel
theorem dX3_callOff_47 : decode cX3_callOff 47 = .ok (.aload 4, 2) := by decide +kernel
theorem dX3_callOff_49 : decode cX3_callOff 49 = .ok (.invokevirtual 118, 3) := by decide +kernel
theorem dX3_callOff_52 : decode cX3_callOff 52 = .ok (.aload_n 2, 1) := by decide +kernel
theorem dX3_callOff_53 : decode cX3_callOff 53 = .ok (.invokevirtual 121, 3) := by decide +kernel
theorem dX3_callOff_56 : decode cX3_callOff 56 = .ok (.iload_n 3, 1) := by decide +kernel
theorem dX3_callOff_57 : decode cX3_callOff 57 = .ok (.ireturn, 1) := by decide +kernel
theorem dX3_pass_0 : decode cX3_pass 0 = .ok (.iload_n 1, 1) := by decide +kernel
theorem dX3_pass_1 : decode cX3_pass 1 = .ok (.iconst 1, 1) := by decide +kernel
theorem dX3_pass_2 : decode cX3_pass 2 = .ok (.if_icmp .lt 10, 3) := by decide +kernel
theorem dX3_pass_5 : decode cX3_pass 5 = .ok (.iload_n 1, 1) := by decide +kernel
theorem dX3_pass_6 : decode cX3_pass 6 = .ok (.sipush 500, 3) := by decide +kernel
theorem dX3_pass_9 : decode cX3_pass 9 = .ok (.if_icmp .le 13, 3) := by decide +kernel
theorem dX3_pass_12 : decode cX3_pass 12 = .ok (.new 42, 3) := by decide +kernel
theorem dX3_pass_15 : decode cX3_pass 15 = .ok (.dup, 1) := by decide +kernel
theorem dX3_pass_16 : decode cX3_pass 16 = .ok (.ldc 79, 2) := by decide +kernel
theorem dX3_pass_18 : decode cX3_pass 18 = .ok (.invokespecial 46, 3) := by decide +kernel
theorem dX3_pass_21 : decode cX3_pass 21 = .ok (.athrow, 1) := by decide +kernel
theorem dX3_pass_22 : decode cX3_pass 22 = .ok (.aload_n 0, 1) := by decide +kernel
theorem dX3_pass_23 : decode cX3_pass 23 = .ok (.getfield 10, 3) := by decide +kernel
theorem dX3_pass_26 : decode cX3_pass 26 = .ok (.getfield 124, 3) := by decide +kernel
theorem dX3_pass_29 : decode cX3_pass 29 = .ok (.iload_n 1, 1) := by decide +kernel
theorem dX3_pass_30 : decode cX3_pass 30 = .ok (.iadd, 1) := by decide +kernel
theorem dX3_pass_31 : decode cX3_pass 31 = .ok (.sipush 5000, 3) := by decide +kernel
theorem dX3_pass_34 : decode cX3_pass 34 = .ok (.if_icmp .le 13, 3) := by decide +kernel
theorem dX3_pass_37 : decode cX3_pass 37 = .ok (.new 51, 3) := by decide +kernel
theorem dX3_pass_40 : decode cX3_pass 40 = .ok (.dup, 1) := by decide +kernel
theorem dX3_pass_41 : decode cX3_pass 41 = .ok (.ldc 127, 2) := by decide +kernel
theorem dX3_pass_43 : decode cX3_pass 43 = .ok (.invokespecial 55, 3) := by decide +kernel
theorem dX3_pass_46 : decode cX3_pass 46 = .ok (.athrow, 1) := by decide +kernel
theorem dX3_pass_47 : decode cX3_pass 47 = .ok (.aload_n 0, 1) := by decide +kernel
theorem dX3_pass_48 : decode cX3_pass 48 = .ok (.invokevirtual 56, 3) := by decide +kernel
theorem dX3_pass_51 : decode cX3_pass 51 = .ok (.aload_n 0, 1) := by decide +kernel
theorem dX3_pass_52 : decode cX3_pass 52 = .ok (.getfield 10, 3) := by decide +kernel
theorem dX3_pass_55 : decode cX3_pass 55 = .ok (.getfield 129, 3) := by decide +kernel
theorem dX3_pass_58 : decode cX3_pass 58 = .ok (.istore_n 2, 1) := by decide +kernel
theorem dX3_pass_59 : decode cX3_pass 59 = .ok (.iconst 0, 1) := by decide +kernel
theorem dX3_pass_60 : decode cX3_pass 60 = .ok (.istore_n 3, 1) := by decide +kernel
theorem dX3_pass_61 : decode cX3_pass 61 = .ok (.iload_n 3, 1) := by decide +kernel
theorem dX3_pass_62 : decode cX3_pass 62 = .ok (.iload_n 1, 1) := by decide +kernel
theorem dX3_pass_63 : decode cX3_pass 63 = .ok (.if_icmp .ge 16, 3) := by decide +kernel
theorem dX3_pass_66 : decode cX3_pass 66 = .ok (.aload_n 0, 1) := by decide +kernel
theorem dX3_pass_67 : decode cX3_pass 67 = .ok (.getfield 10, 3) := by decide +kernel
theorem dX3_pass_70 : decode cX3_pass 70 = .ok (.invokevirtual 132, 3) := by decide +kernel
theorem dX3_pass_73 : decode cX3_pass 73 = .ok (.iinc 3 1, 3) := by decide +kernel
theorem dX3_pass_76 : decode cX3_pass 76 = .ok (.goto (-15), 3) := by decide +kernel
theorem dX3_pass_79 : decode cX3_pass 79 = .ok (.aload_n 0, 1) := by decide +kernel
theorem dX3_pass_80 : decode cX3_pass 80 = .ok (.getfield 10, 3) := by decide +kernel
theorem dX3_pass_83 : decode cX3_pass 83 = .ok (.getfield 129, 3) := by decide +kernel
theorem dX3_pass_86 : decode cX3_pass 86 = .ok (.iload_n 2, 1) := by decide +kernel
theorem dX3_pass_87 : decode cX3_pass 87 = .ok (.isub, 1) := by decide +kernel
theorem dX3_pass_88 : decode cX3_pass 88 = .ok (.ireturn, 1) := by decide +kernel
theorem dX3_tell_0 : decode cX3_tell 0 = .ok (.aload_n 0, 1) := by decide +kernel
theorem dX3_tell_1 : decode cX3_tell 1 = .ok (.invokevirtual 56, 3) := by decide +kernel
theorem dX3_tell_4 : decode cX3_tell 4 = .ok (.aload_n 0, 1) := by decide +kernel
theorem dX3_tell_5 : decode cX3_tell 5 = .ok (.getfield 20, 3) := by decide +kernel
theorem dX3_tell_8 : decode cX3_tell 8 = .ok (.aload_n 0, 1) := by decide +kernel
theorem dX3_tell_9 : decode cX3_tell 9 = .ok (.getfield 10, 3) := by decide +kernel
theorem dX3_tell_12 : decode cX3_tell 12 = .ok (.invokevirtual 135, 3) := by decide +kernel
theorem dX3_tell_15 : decode cX3_tell 15 = .ok (.aload_n 0, 1) := by decide +kernel
theorem dX3_tell_16 : decode cX3_tell 16 = .ok (.getfield 20, 3) := by decide +kernel
theorem dX3_tell_19 : decode cX3_tell 19 = .ok (.invokevirtual 139, 3) := by decide +kernel
theorem dX3_tell_22 : decode cX3_tell 22 = .ok (.pop, 1) := by decide +kernel
theorem dX3_tell_23 : decode cX3_tell 23 = .ok (.iconst 0, 1) := by decide +kernel
theorem dX3_tell_24 : decode cX3_tell 24 = .ok (.istore_n 1, 1) := by decide +kernel
theorem dX3_tell_25 : decode cX3_tell 25 = .ok (.iconst 0, 1) := by decide +kernel
theorem dX3_tell_26 : decode cX3_tell 26 = .ok (.istore_n 2, 1) := by decide +kernel
theorem dX3_tell_27 : decode cX3_tell 27 = .ok (.iload_n 2, 1) := by decide +kernel
theorem dX3_tell_28 : decode cX3_tell 28 = .ok (.aload_n 0, 1) := by decide +kernel
theorem dX3_tell_29 : decode cX3_tell 29 = .ok (.getfield 10, 3) := by decide +kernel
theorem dX3_tell_32 : decode cX3_tell 32 = .ok (.getfield 47, 3) := by decide +kernel
theorem dX3_tell_35 : decode cX3_tell 35 = .ok (.if_icmp .ge 71, 3) := by decide +kernel
theorem dX3_tell_38 : decode cX3_tell 38 = .ok (.aload_n 0, 1) := by decide +kernel
theorem dX3_tell_39 : decode cX3_tell 39 = .ok (.getfield 10, 3) := by decide +kernel
theorem dX3_tell_42 : decode cX3_tell 42 = .ok (.iload_n 2, 1) := by decide +kernel
theorem dX3_tell_43 : decode cX3_tell 43 = .ok (.invokevirtual 89, 3) := by decide +kernel
theorem dX3_tell_46 : decode cX3_tell 46 = .ok (.astore_n 3, 1) := by decide +kernel
theorem dX3_tell_47 : decode cX3_tell 47 = .ok (.aload_n 0, 1) := by decide +kernel
theorem dX3_tell_48 : decode cX3_tell 48 = .ok (.getfield 20, 3) := by decide +kernel
theorem dX3_tell_51 : decode cX3_tell 51 = .ok (.iload_n 2, 1) := by decide +kernel
theorem dX3_tell_52 : decode cX3_tell 52 = .ok (.invokevirtual 89, 3) := by decide +kernel
theorem dX3_tell_55 : decode cX3_tell 55 = .ok (.astore 4, 2) := by decide +kernel
theorem dX3_tell_57 : decode cX3_tell 57 = .ok (.aload_n 3, 1) := by decide +kernel
theorem dX3_tell_58 : decode cX3_tell 58 = .ok (.ifnull 42, 3) := by decide +kernel
theorem dX3_tell_61 : decode cX3_tell 61 = .ok (.aload 4, 2) := by decide +kernel
theorem dX3_tell_63 : decode cX3_tell 63 = .ok (.ifnull 37, 3) := by decide +kernel
theorem dX3_tell_66 : decode cX3_tell 66 = .ok (.aload_n 3, 1) := by decide +kernel
theorem dX3_tell_67 : decode cX3_tell 67 = .ok (.getfield 97, 3) := by decide +kernel
theorem dX3_tell_70 : decode cX3_tell 70 = .ok (.iconst 2, 1) := by decide +kernel
theorem dX3_tell_71 : decode cX3_tell 71 = .ok (.if_icmp .eq 29, 3) := by decide +kernel
theorem dX3_tell_74 : decode cX3_tell 74 = .ok (.aload_n 3, 1) := by decide +kernel
theorem dX3_tell_75 : decode cX3_tell 75 = .ok (.aload 4, 2) := by decide +kernel
theorem dX3_tell_77 : decode cX3_tell 77 = .ok (.getfield 143, 3) := by decide +kernel
theorem dX3_tell_80 : decode cX3_tell 80 = .ok (.putfield 144, 3) := by decide +kernel
theorem dX3_tell_83 : decode cX3_tell 83 = .ok (.iload_n 1, 1) := by decide +kernel
theorem dX3_tell_84 : decode cX3_tell 84 = .ok (.aload 4, 2) := by decide +kernel
theorem dX3_tell_86 : decode cX3_tell 86 = .ok (.getfield 143, 3) := by decide +kernel
theorem dX3_tell_89 : decode cX3_tell 89 = .ok (.iconst (-1), 1) := by decide +kernel
theorem dX3_tell_90 : decode cX3_tell 90 = .ok (.if_icmp .ne 7, 3) := by decide +kernel
theorem dX3_tell_93 : decode cX3_tell 93 = .ok (.iconst 0, 1) := by decide +kernel
theorem dX3_tell_94 : decode cX3_tell 94 = .ok (.goto 4, 3) := by decide +kernel
theorem dX3_tell_97 : decode cX3_tell 97 = .ok (.iconst 1, 1) := by decide +kernel
theorem dX3_tell_98 : decode cX3_tell 98 = .ok (.iadd, 1) := by decide +kernel
theorem dX3_tell_99 : decode cX3_tell 99 = .ok (.istore_n 1, 1) := by decide +kernel
theorem dX3_tell_100 : decode cX3_tell 100 = .ok (.iinc 2 1, 3) := by decide +kernel
theorem dX3_tell_103 : decode cX3_tell 103 = .ok (.goto (-76), 3) := by decide +kernel
theorem dX3_tell_106 : decode cX3_tell 106 = .ok (.iload_n 1, 1) := by decide +kernel
theorem dX3_tell_107 : decode cX3_tell 107 = .ok (.ireturn, 1) := by decide +kernel
theorem dX3_chair_0 : decode cX3_chair 0 = .ok (.aload_n 0, 1) := by decide +kernel
theorem dX3_chair_1 : decode cX3_chair 1 = .ok (.getfield 10, 3) := by decide +kernel
theorem dX3_chair_4 : decode cX3_chair 4 = .ok (.iload_n 1, 1) := by decide +kernel
theorem dX3_chair_5 : decode cX3_chair 5 = .ok (.invokevirtual 89, 3) := by decide +kernel
theorem dX3_chair_8 : decode cX3_chair 8 = .ok (.astore_n 3, 1) := by decide +kernel
theorem dX3_chair_9 : decode cX3_chair 9 = .ok (.aload_n 3, 1) := by decide +kernel
theorem dX3_chair_10 : decode cX3_chair 10 = .ok (.ifnonnull 13, 3) := by decide +kernel
theorem dX3_chair_13 : decode cX3_chair 13 = .ok (.new 35, 3) := by decide +kernel
theorem dX3_chair_16 : decode cX3_chair 16 = .ok (.dup, 1) := by decide +kernel
theorem dX3_chair_17 : decode cX3_chair 17 = .ok (.ldc 93, 2) := by decide +kernel
theorem dX3_chair_19 : decode cX3_chair 19 = .ok (.invokespecial 39, 3) := by decide +kernel
theorem dX3_chair_22 : decode cX3_chair 22 = .ok (.athrow, 1) := by decide +kernel
theorem dX3_chair_23 : decode cX3_chair 23 = .ok (.iload_n 2, 1) := by decide +kernel
theorem dX3_chair_24 : decode cX3_chair 24 = .ok (.ifCond .lt 9, 3) := by decide +kernel
theorem dX3_chair_27 : decode cX3_chair 27 = .ok (.iload_n 2, 1) := by decide +kernel
theorem dX3_chair_28 : decode cX3_chair 28 = .ok (.bipush 9, 2) := by decide +kernel
theorem dX3_chair_30 : decode cX3_chair 30 = .ok (.if_icmp .lt 13, 3) := by decide +kernel
theorem dX3_chair_33 : decode cX3_chair 33 = .ok (.new 42, 3) := by decide +kernel
theorem dX3_chair_36 : decode cX3_chair 36 = .ok (.dup, 1) := by decide +kernel
theorem dX3_chair_37 : decode cX3_chair 37 = .ok (.ldc 147, 2) := by decide +kernel
theorem dX3_chair_39 : decode cX3_chair 39 = .ok (.invokespecial 46, 3) := by decide +kernel
theorem dX3_chair_42 : decode cX3_chair 42 = .ok (.athrow, 1) := by decide +kernel
theorem dX3_chair_43 : decode cX3_chair 43 = .ok (.aload_n 3, 1) := by decide +kernel
theorem dX3_chair_44 : decode cX3_chair 44 = .ok (.iload_n 2, 1) := by decide +kernel
theorem dX3_chair_45 : decode cX3_chair 45 = .ok (.invokevirtual 149, 3) := by decide +kernel
theorem dX3_chair_48 : decode cX3_chair 48 = .ok (.ireturn, 1) := by decide +kernel
theorem dX3_team_0 : decode cX3_team 0 = .ok (.aload_n 0, 1) := by decide +kernel
theorem dX3_team_1 : decode cX3_team 1 = .ok (.getfield 10, 3) := by decide +kernel
theorem dX3_team_4 : decode cX3_team 4 = .ok (.iload_n 1, 1) := by decide +kernel
theorem dX3_team_5 : decode cX3_team 5 = .ok (.invokevirtual 107, 3) := by decide +kernel
theorem dX3_team_8 : decode cX3_team 8 = .ok (.astore_n 3, 1) := by decide +kernel
theorem dX3_team_9 : decode cX3_team 9 = .ok (.aload_n 3, 1) := by decide +kernel
theorem dX3_team_10 : decode cX3_team 10 = .ok (.ifnonnull 13, 3) := by decide +kernel
theorem dX3_team_13 : decode cX3_team 13 = .ok (.new 35, 3) := by decide +kernel
theorem dX3_team_16 : decode cX3_team 16 = .ok (.dup, 1) := by decide +kernel
theorem dX3_team_17 : decode cX3_team 17 = .ok (.ldc 111, 2) := by decide +kernel
theorem dX3_team_19 : decode cX3_team 19 = .ok (.invokespecial 39, 3) := by decide +kernel
theorem dX3_team_22 : decode cX3_team 22 = .ok (.athrow, 1) := by decide +kernel
theorem dX3_team_23 : decode cX3_team 23 = .ok (.iload_n 2, 1) := by decide +kernel
theorem dX3_team_24 : decode cX3_team 24 = .ok (.ifCond .lt 9, 3) := by decide +kernel
theorem dX3_team_27 : decode cX3_team 27 = .ok (.iload_n 2, 1) := by decide +kernel
theorem dX3_team_28 : decode cX3_team 28 = .ok (.bipush 8, 2) := by decide +kernel
theorem dX3_team_30 : decode cX3_team 30 = .ok (.if_icmp .lt 13, 3) := by decide +kernel
theorem dX3_team_33 : decode cX3_team 33 = .ok (.new 42, 3) := by decide +kernel
theorem dX3_team_36 : decode cX3_team 36 = .ok (.dup, 1) := by decide +kernel
theorem dX3_team_37 : decode cX3_team 37 = .ok (.ldc 147, 2) := by decide +kernel
theorem dX3_team_39 : decode cX3_team 39 = .ok (.invokespecial 46, 3) := by decide +kernel
theorem dX3_team_42 : decode cX3_team 42 = .ok (.athrow, 1) := by decide +kernel
theorem dX3_team_43 : decode cX3_team 43 = .ok (.aload_n 3, 1) := by decide +kernel
theorem dX3_team_44 : decode cX3_team 44 = .ok (.iload_n 2, 1) := by decide +kernel
theorem dX3_team_45 : decode cX3_team 45 = .ok (.invokevirtual 152, 3) := by decide +kernel
theorem dX3_team_48 : decode cX3_team 48 = .ok (.ireturn, 1) := by decide +kernel
theorem dX3_value_0 : decode cX3_value 0 = .ok (.iload_n 1, 1) := by decide +kernel
theorem dX3_value_1 : decode cX3_value 1 = .ok (.ifCond .lt 9, 3) := by decide +kernel
theorem dX3_value_4 : decode cX3_value 4 = .ok (.iload_n 1, 1) := by decide +kernel
theorem dX3_value_5 : decode cX3_value 5 = .ok (.bipush 12, 2) := by decide +kernel
theorem dX3_value_7 : decode cX3_value 7 = .ok (.if_icmp .lt 13, 3) := by decide +kernel
theorem dX3_value_10 : decode cX3_value 10 = .ok (.new 42, 3) := by decide +kernel
theorem dX3_value_13 : decode cX3_value 13 = .ok (.dup, 1) := by decide +kernel
theorem dX3_value_14 : decode cX3_value 14 = .ok (.ldc 147, 2) := by decide +kernel
theorem dX3_value_16 : decode cX3_value 16 = .ok (.invokespecial 46, 3) := by decide +kernel
theorem dX3_value_19 : decode cX3_value 19 = .ok (.athrow, 1) := by decide +kernel
theorem dX3_value_20 : decode cX3_value 20 = .ok (.aload_n 0, 1) := by decide +kernel
theorem dX3_value_21 : decode cX3_value 21 = .ok (.getfield 10, 3) := by decide +kernel
theorem dX3_value_24 : decode cX3_value 24 = .ok (.iload_n 1, 1) := by decide +kernel
theorem dX3_value_25 : decode cX3_value 25 = .ok (.invokevirtual 153, 3) := by decide +kernel
theorem dX3_value_28 : decode cX3_value 28 = .ok (.ireturn, 1) := by decide +kernel
theorem dX3_way_0 : decode cX3_way 0 = .ok (.aload_n 0, 1) := by decide +kernel
theorem dX3_way_1 : decode cX3_way 1 = .ok (.getfield 10, 3) := by decide +kernel
theorem dX3_way_4 : decode cX3_way 4 = .ok (.iload_n 1, 1) := by decide +kernel
theorem dX3_way_5 : decode cX3_way 5 = .ok (.invokevirtual 31, 3) := by decide +kernel
theorem dX3_way_8 : decode cX3_way 8 = .ok (.ifCond .eq 14, 3) := by decide +kernel
theorem dX3_way_11 : decode cX3_way 11 = .ok (.aload_n 0, 1) := by decide +kernel
theorem dX3_way_12 : decode cX3_way 12 = .ok (.getfield 10, 3) := by decide +kernel
theorem dX3_way_15 : decode cX3_way 15 = .ok (.iload_n 2, 1) := by decide +kernel
theorem dX3_way_16 : decode cX3_way 16 = .ok (.invokevirtual 31, 3) := by decide +kernel
theorem dX3_way_19 : decode cX3_way 19 = .ok (.ifCond .ne 13, 3) := by decide +kernel
theorem dX3_way_22 : decode cX3_way 22 = .ok (.new 35, 3) := by decide +kernel
theorem dX3_way_25 : decode cX3_way 25 = .ok (.dup, 1) := by decide +kernel
theorem dX3_way_26 : decode cX3_way 26 = .ok (.ldc 37, 2) := by decide +kernel
theorem dX3_way_28 : decode cX3_way 28 = .ok (.invokespecial 39, 3) := by decide +kernel
theorem dX3_way_31 : decode cX3_way 31 = .ok (.athrow, 1) := by decide +kernel
theorem dX3_way_32 : decode cX3_way 32 = .ok (.aload_n 0, 1) := by decide +kernel
theorem dX3_way_33 : decode cX3_way 33 = .ok (.getfield 10, 3) := by decide +kernel
theorem dX3_way_36 : decode cX3_way 36 = .ok (.iload_n 1, 1) := by decide +kernel
theorem dX3_way_37 : decode cX3_way 37 = .ok (.iload_n 2, 1) := by decide +kernel
theorem dX3_way_38 : decode cX3_way 38 = .ok (.invokevirtual 154, 3) := by decide +kernel
theorem dX3_way_41 : decode cX3_way 41 = .ok (.ireturn, 1) := by decide +kernel
theorem dX3_work_0 : decode cX3_work 0 = .ok (.aload_n 0, 1) := by decide +kernel
theorem dX3_work_1 : decode cX3_work 1 = .ok (.getfield 10, 3) := by decide +kernel
theorem dX3_work_4 : decode cX3_work 4 = .ok (.iload_n 1, 1) := by decide +kernel
theorem dX3_work_5 : decode cX3_work 5 = .ok (.invokevirtual 89, 3) := by decide +kernel
theorem dX3_work_8 : decode cX3_work 8 = .ok (.astore_n 3, 1) := by decide +kernel
theorem dX3_work_9 : decode cX3_work 9 = .ok (.aload_n 0, 1) := by decide +kernel
theorem dX3_work_10 : decode cX3_work 10 = .ok (.getfield 10, 3) := by decide +kernel
theorem dX3_work_13 : decode cX3_work 13 = .ok (.iload_n 2, 1) := by decide +kernel
theorem dX3_work_14 : decode cX3_work 14 = .ok (.invokevirtual 107, 3) := by decide +kernel
theorem dX3_work_17 : decode cX3_work 17 = .ok (.astore 4, 2) := by decide +kernel
theorem dX3_work_19 : decode cX3_work 19 = .ok (.aload_n 3, 1) := by decide +kernel
theorem dX3_work_20 : decode cX3_work 20 = .ok (.ifnull 8, 3) := by decide +kernel
theorem dX3_work_23 : decode cX3_work 23 = .ok (.aload 4, 2) := by decide +kernel
theorem dX3_work_25 : decode cX3_work 25 = .ok (.ifnonnull 13, 3) := by decide +kernel
theorem dX3_work_28 : decode cX3_work 28 = .ok (.new 35, 3) := by decide +kernel
theorem dX3_work_31 : decode cX3_work 31 = .ok (.dup, 1) := by decide +kernel
theorem dX3_work_32 : decode cX3_work 32 = .ok (.ldc 157, 2) := by decide +kernel
theorem dX3_work_34 : decode cX3_work 34 = .ok (.invokespecial 39, 3) := by decide +kernel
theorem dX3_work_37 : decode cX3_work 37 = .ok (.athrow, 1) := by decide +kernel
theorem dX3_work_38 : decode cX3_work 38 = .ok (.aload_n 0, 1) := by decide +kernel
theorem dX3_work_39 : decode cX3_work 39 = .ok (.getfield 10, 3) := by decide +kernel
theorem dX3_work_42 : decode cX3_work 42 = .ok (.aload_n 3, 1) := by decide +kernel
theorem dX3_work_43 : decode cX3_work 43 = .ok (.iload_n 2, 1) := by decide +kernel
theorem dX3_work_44 : decode cX3_work 44 = .ok (.aload 4, 2) := by decide +kernel
theorem dX3_work_46 : decode cX3_work 46 = .ok (.getfield 159, 3) := by decide +kernel
theorem dX3_work_49 : decode cX3_work 49 = .ok (.invokevirtual 162, 3) := by decide +kernel
theorem dX3_work_52 : decode cX3_work 52 = .ok (.ireturn, 1) := by decide +kernel
theorem dX3_journal_0 : decode cX3_journal 0 = .ok (.iload_n 1, 1) := by decide +kernel
theorem dX3_journal_1 : decode cX3_journal 1 = .ok (.ifCond .ge 13, 3) := by decide +kernel
theorem dX3_journal_4 : decode cX3_journal 4 = .ok (.new 35, 3) := by decide +kernel
theorem dX3_journal_7 : decode cX3_journal 7 = .ok (.dup, 1) := by decide +kernel
theorem dX3_journal_8 : decode cX3_journal 8 = .ok (.ldc 166, 2) := by decide +kernel
theorem dX3_journal_10 : decode cX3_journal 10 = .ok (.invokespecial 39, 3) := by decide +kernel
theorem dX3_journal_13 : decode cX3_journal 13 = .ok (.athrow, 1) := by decide +kernel
theorem dX3_journal_14 : decode cX3_journal 14 = .ok (.aload_n 0, 1) := by decide +kernel
theorem dX3_journal_15 : decode cX3_journal 15 = .ok (.getfield 10, 3) := by decide +kernel
theorem dX3_journal_18 : decode cX3_journal 18 = .ok (.iload_n 1, 1) := by decide +kernel
theorem dX3_journal_19 : decode cX3_journal 19 = .ok (.invokevirtual 168, 3) := by decide +kernel
theorem dX3_journal_22 : decode cX3_journal 22 = .ok (.ireturn, 1) := by decide +kernel
theorem dX3_minutesToAll_0 : decode cX3_minutesToAll 0 = .ok (.aload_n 0, 1) := by decide +kernel
theorem dX3_minutesToAll_1 : decode cX3_minutesToAll 1 = .ok (.getfield 20, 3) := by decide +kernel
theorem dX3_minutesToAll_4 : decode cX3_minutesToAll 4 = .ok (.aload_n 0, 1) := by decide +kernel
theorem dX3_minutesToAll_5 : decode cX3_minutesToAll 5 = .ok (.getfield 10, 3) := by decide +kernel
theorem dX3_minutesToAll_8 : decode cX3_minutesToAll 8 = .ok (.invokevirtual 135, 3) := by decide +kernel
theorem dX3_minutesToAll_11 : decode cX3_minutesToAll 11 = .ok (.aload_n 0, 1) := by decide +kernel
theorem dX3_minutesToAll_12 : decode cX3_minutesToAll 12 = .ok (.getfield 20, 3) := by decide +kernel
theorem dX3_minutesToAll_15 : decode cX3_minutesToAll 15 = .ok (.invokevirtual 139, 3) := by decide +kernel
theorem dX3_minutesToAll_18 : decode cX3_minutesToAll 18 = .ok (.ireturn, 1) := by decide +kernel
theorem dX3_chosen_0 : decode cX3_chosen 0 = .ok (.aload_n 0, 1) := by decide +kernel
theorem dX3_chosen_1 : decode cX3_chosen 1 = .ok (.getfield 10, 3) := by decide +kernel
theorem dX3_chosen_4 : decode cX3_chosen 4 = .ok (.iload_n 1, 1) := by decide +kernel
theorem dX3_chosen_5 : decode cX3_chosen 5 = .ok (.invokevirtual 31, 3) := by decide +kernel
theorem dX3_chosen_8 : decode cX3_chosen 8 = .ok (.ifCond .ne 13, 3) := by decide +kernel
theorem dX3_chosen_11 : decode cX3_chosen 11 = .ok (.new 35, 3) := by decide +kernel
theorem dX3_chosen_14 : decode cX3_chosen 14 = .ok (.dup, 1) := by decide +kernel
theorem dX3_chosen_15 : decode cX3_chosen 15 = .ok (.ldc 37, 2) := by decide +kernel
theorem dX3_chosen_17 : decode cX3_chosen 17 = .ok (.invokespecial 39, 3) := by decide +kernel
theorem dX3_chosen_20 : decode cX3_chosen 20 = .ok (.athrow, 1) := by decide +kernel
theorem dX3_chosen_21 : decode cX3_chosen 21 = .ok (.aload_n 0, 1) := by decide +kernel
theorem dX3_chosen_22 : decode cX3_chosen 22 = .ok (.getfield 10, 3) := by decide +kernel
theorem dX3_chosen_25 : decode cX3_chosen 25 = .ok (.iload_n 1, 1) := by decide +kernel
theorem dX3_chosen_26 : decode cX3_chosen 26 = .ok (.invokevirtual 174, 3) := by decide +kernel
theorem dX3_chosen_29 : decode cX3_chosen 29 = .ok (.ireturn, 1) := by decide +kernel
theorem dX3_meanCold_0 : decode cX3_meanCold 0 = .ok (.iconst 0, 1) := by decide +kernel
theorem dX3_meanCold_1 : decode cX3_meanCold 1 = .ok (.istore_n 1, 1) := by decide +kernel
theorem dX3_meanCold_2 : decode cX3_meanCold 2 = .ok (.iconst 0, 1) := by decide +kernel
theorem dX3_meanCold_3 : decode cX3_meanCold 3 = .ok (.istore_n 2, 1) := by decide +kernel
theorem dX3_meanCold_4 : decode cX3_meanCold 4 = .ok (.iconst 0, 1) := by decide +kernel
theorem dX3_meanCold_5 : decode cX3_meanCold 5 = .ok (.istore_n 3, 1) := by decide +kernel
theorem dX3_meanCold_6 : decode cX3_meanCold 6 = .ok (.iload_n 3, 1) := by decide +kernel
theorem dX3_meanCold_7 : decode cX3_meanCold 7 = .ok (.aload_n 0, 1) := by decide +kernel
theorem dX3_meanCold_8 : decode cX3_meanCold 8 = .ok (.getfield 10, 3) := by decide +kernel
theorem dX3_meanCold_11 : decode cX3_meanCold 11 = .ok (.getfield 47, 3) := by decide +kernel
theorem dX3_meanCold_14 : decode cX3_meanCold 14 = .ok (.if_icmp .ge 44, 3) := by decide +kernel
theorem dX3_meanCold_17 : decode cX3_meanCold 17 = .ok (.aload_n 0, 1) := by decide +kernel
theorem dX3_meanCold_18 : decode cX3_meanCold 18 = .ok (.getfield 10, 3) := by decide +kernel
theorem dX3_meanCold_21 : decode cX3_meanCold 21 = .ok (.iload_n 3, 1) := by decide +kernel
theorem dX3_meanCold_22 : decode cX3_meanCold 22 = .ok (.invokevirtual 89, 3) := by decide +kernel
theorem dX3_meanCold_25 : decode cX3_meanCold 25 = .ok (.astore 4, 2) := by decide +kernel
theorem dX3_meanCold_27 : decode cX3_meanCold 27 = .ok (.aload 4, 2) := by decide +kernel
theorem dX3_meanCold_29 : decode cX3_meanCold 29 = .ok (.ifnull 23, 3) := by decide +kernel
theorem dX3_meanCold_32 : decode cX3_meanCold 32 = .ok (.aload 4, 2) := by decide +kernel
theorem dX3_meanCold_34 : decode cX3_meanCold 34 = .ok (.getfield 97, 3) := by decide +kernel
theorem dX3_meanCold_37 : decode cX3_meanCold 37 = .ok (.iconst 2, 1) := by decide +kernel
theorem dX3_meanCold_38 : decode cX3_meanCold 38 = .ok (.if_icmp .eq 14, 3) := by decide +kernel
theorem dX3_meanCold_41 : decode cX3_meanCold 41 = .ok (.iload_n 1, 1) := by decide +kernel
theorem dX3_meanCold_42 : decode cX3_meanCold 42 = .ok (.aload 4, 2) := by decide +kernel
theorem dX3_meanCold_44 : decode cX3_meanCold 44 = .ok (.getfield 104, 3) := by decide +kernel
theorem dX3_meanCold_47 : decode cX3_meanCold 47 = .ok (.iadd, 1) := by decide +kernel
theorem dX3_meanCold_48 : decode cX3_meanCold 48 = .ok (.istore_n 1, 1) := by decide +kernel
theorem dX3_meanCold_49 : decode cX3_meanCold 49 = .ok (.iinc 2 1, 3) := by decide +kernel
theorem dX3_meanCold_52 : decode cX3_meanCold 52 = .ok (.iinc 3 1, 3) := by decide +kernel
theorem dX3_meanCold_55 : decode cX3_meanCold 55 = .ok (.goto (-49), 3) := by decide +kernel
theorem dX3_meanCold_58 : decode cX3_meanCold 58 = .ok (.iload_n 2, 1) := by decide +kernel
theorem dX3_meanCold_59 : decode cX3_meanCold 59 = .ok (.ifCond .ne 7, 3) := by decide +kernel
theorem dX3_meanCold_62 : decode cX3_meanCold 62 = .ok (.dconst 0, 1) := by decide +kernel
theorem dX3_meanCold_63 : decode cX3_meanCold 63 = .ok (.goto 8, 3) := by decide +kernel
theorem dX3_meanCold_66 : decode cX3_meanCold 66 = .ok (.iload_n 1, 1) := by decide +kernel
theorem dX3_meanCold_67 : decode cX3_meanCold 67 = .ok (.i2d, 1) := by decide +kernel
theorem dX3_meanCold_68 : decode cX3_meanCold 68 = .ok (.iload_n 2, 1) := by decide +kernel
theorem dX3_meanCold_69 : decode cX3_meanCold 69 = .ok (.i2d, 1) := by decide +kernel
theorem dX3_meanCold_70 : decode cX3_meanCold 70 = .ok (.ddiv, 1) := by decide +kernel
theorem dX3_meanCold_71 : decode cX3_meanCold 71 = .ok (.dreturn, 1) := by decide +kernel
theorem dX3_save_0 : decode cX3_save 0 = .ok (.aload_n 0, 1) := by decide +kernel
theorem dX3_save_1 : decode cX3_save 1 = .ok (.aload_n 0, 1) := by decide +kernel
theorem dX3_save_2 : decode cX3_save 2 = .ok (.getfield 193, 3) := by decide +kernel
theorem dX3_save_5 : decode cX3_save 5 = .ok (.invokevirtual 196, 3) := by decide +kernel
theorem dX3_save_8 : decode cX3_save 8 = .ok (.astore_n 1, 1) := by decide +kernel
theorem dX3_save_9 : decode cX3_save 9 = .ok (.aload_n 1, 1) := by decide +kernel
theorem dX3_save_10 : decode cX3_save 10 = .ok (.ifnull 11, 3) := by decide +kernel
theorem dX3_save_13 : decode cX3_save 13 = .ok (.aload_n 1, 1) := by decide +kernel
theorem dX3_save_14 : decode cX3_save 14 = .ok (.aload_n 0, 1) := by decide +kernel
theorem dX3_save_15 : decode cX3_save 15 = .ok (.getfield 10, 3) := by decide +kernel
theorem dX3_save_18 : decode cX3_save 18 = .ok (.invokevirtual 135, 3) := by decide +kernel
theorem dX3_save_21 : decode cX3_save 21 = .ok (.aload_n 0, 1) := by decide +kernel
theorem dX3_save_22 : decode cX3_save 22 = .ok (.aload_n 0, 1) := by decide +kernel
theorem dX3_save_23 : decode cX3_save 23 = .ok (.getfield 193, 3) := by decide +kernel
theorem dX3_save_26 : decode cX3_save 26 = .ok (.iconst 1, 1) := by decide +kernel
theorem dX3_save_27 : decode cX3_save 27 = .ok (.iadd, 1) := by decide +kernel
theorem dX3_save_28 : decode cX3_save 28 = .ok (.iconst 4, 1) := by decide +kernel
theorem dX3_save_29 : decode cX3_save 29 = .ok (.irem, 1) := by decide +kernel
theorem dX3_save_30 : decode cX3_save 30 = .ok (.putfield 193, 3) := by decide +kernel
theorem dX3_save_33 : decode cX3_save 33 = .ok (.aload_n 0, 1) := by decide +kernel
theorem dX3_save_34 : decode cX3_save 34 = .ok (.iconst 4, 1) := by decide +kernel
theorem dX3_save_35 : decode cX3_save 35 = .ok (.aload_n 0, 1) := by decide +kernel
theorem dX3_save_36 : decode cX3_save 36 = .ok (.getfield 188, 3) := by decide +kernel
theorem dX3_save_39 : decode cX3_save 39 = .ok (.iconst 1, 1) := by decide +kernel
theorem dX3_save_40 : decode cX3_save 40 = .ok (.iadd, 1) := by decide +kernel
theorem dX3_save_41 : decode cX3_save 41 = .ok (.invokestatic 215, 3) := by decide +kernel
theorem dX3_save_44 : decode cX3_save 44 = .ok (.putfield 188, 3) := by decide +kernel
theorem dX3_save_47 : decode cX3_save 47 = .ok (.return_, 1) := by decide +kernel
theorem dX3_savedAt_0 : decode cX3_savedAt 0 = .ok (.iload_n 1, 1) := by decide +kernel
theorem dX3_savedAt_1 : decode cX3_savedAt 1 = .ok (.ifCond .lt 21, 3) := by decide +kernel
theorem dX3_savedAt_4 : decode cX3_savedAt 4 = .ok (.iload_n 1, 1) := by decide +kernel
theorem dX3_savedAt_5 : decode cX3_savedAt 5 = .ok (.aload_n 0, 1) := by decide +kernel
theorem dX3_savedAt_6 : decode cX3_savedAt 6 = .ok (.getfield 23, 3) := by decide +kernel
theorem dX3_savedAt_9 : decode cX3_savedAt 9 = .ok (.arraylength, 1) := by decide +kernel
theorem dX3_savedAt_10 : decode cX3_savedAt 10 = .ok (.if_icmp .ge 12, 3) := by decide +kernel
theorem dX3_savedAt_13 : decode cX3_savedAt 13 = .ok (.aload_n 0, 1) := by decide +kernel
theorem dX3_savedAt_14 : decode cX3_savedAt 14 = .ok (.getfield 23, 3) := by decide +kernel
theorem dX3_savedAt_17 : decode cX3_savedAt 17 = .ok (.iload_n 1, 1) := by decide +kernel
theorem dX3_savedAt_18 : decode cX3_savedAt 18 = .ok (.aaload, 1) := by decide +kernel
theorem dX3_savedAt_19 : decode cX3_savedAt 19 = .ok (.goto 4, 3) := by decide +kernel
theorem dX3_savedAt_22 : decode cX3_savedAt 22 = .ok (.aconst_null, 1) := by decide +kernel
theorem dX3_savedAt_23 : decode cX3_savedAt 23 = .ok (.areturn, 1) := by decide +kernel
theorem dJ9_max_7cf53_0 : decode cJ9_max_7cf53 0 = .ok (.iload_n 0, 1) := by decide +kernel
theorem dJ9_max_7cf53_1 : decode cJ9_max_7cf53 1 = .ok (.iload_n 1, 1) := by decide +kernel
theorem dJ9_max_7cf53_2 : decode cJ9_max_7cf53 2 = .ok (.if_icmp .lt 7, 3) := by decide +kernel
theorem dJ9_max_7cf53_5 : decode cJ9_max_7cf53 5 = .ok (.iload_n 0, 1) := by decide +kernel
theorem dJ9_max_7cf53_6 : decode cJ9_max_7cf53 6 = .ok (.goto 4, 3) := by decide +kernel
theorem dJ9_max_7cf53_9 : decode cJ9_max_7cf53 9 = .ok (.iload_n 1, 1) := by decide +kernel
theorem dJ9_max_7cf53_10 : decode cJ9_max_7cf53 10 = .ok (.ireturn, 1) := by decide +kernel
theorem dJ9_min_7cf53_0 : decode cJ9_min_7cf53 0 = .ok (.iload_n 0, 1) := by decide +kernel
theorem dJ9_min_7cf53_1 : decode cJ9_min_7cf53 1 = .ok (.iload_n 1, 1) := by decide +kernel
theorem dJ9_min_7cf53_2 : decode cJ9_min_7cf53 2 = .ok (.if_icmp .gt 7, 3) := by decide +kernel
theorem dJ9_min_7cf53_5 : decode cJ9_min_7cf53 5 = .ok (.iload_n 0, 1) := by decide +kernel
theorem dJ9_min_7cf53_6 : decode cJ9_min_7cf53 6 = .ok (.goto 4, 3) := by decide +kernel
theorem dJ9_min_7cf53_9 : decode cJ9_min_7cf53 9 = .ok (.iload_n 1, 1) := by decide +kernel
theorem dJ9_min_7cf53_10 : decode cJ9_min_7cf53 10 = .ok (.ireturn, 1) := by decide +kernel
theorem dL_cell_0 : decode cL_cell 0 = .ok (.iload_n 1, 1) := by decide +kernel
theorem dL_cell_1 : decode cL_cell 1 = .ok (.aload_n 0, 1) := by decide +kernel
theorem dL_cell_2 : decode cL_cell 2 = .ok (.arraylength, 1) := by decide +kernel
theorem dL_cell_3 : decode cL_cell 3 = .ok (.if_icmp .ge 9, 3) := by decide +kernel
theorem dL_cell_6 : decode cL_cell 6 = .ok (.aload_n 0, 1) := by decide +kernel
theorem dL_cell_7 : decode cL_cell 7 = .ok (.iload_n 1, 1) := by decide +kernel
theorem dL_cell_8 : decode cL_cell 8 = .ok (.iaload, 1) := by decide +kernel
theorem dL_cell_9 : decode cL_cell 9 = .ok (.goto 9, 3) := by decide +kernel
theorem dL_cell_12 : decode cL_cell 12 = .ok (.ldc 7, 2) := by decide +kernel
theorem dL_cell_14 : decode cL_cell 14 = .ok (.iload_n 1, 1) := by decide +kernel
theorem dL_cell_15 : decode cL_cell 15 = .ok (.iconst 3, 1) := by decide +kernel
theorem dL_cell_16 : decode cL_cell 16 = .ok (.iadd, 1) := by decide +kernel
theorem dL_cell_17 : decode cL_cell 17 = .ok (.imul, 1) := by decide +kernel
theorem dL_cell_18 : decode cL_cell 18 = .ok (.ireturn, 1) := by decide +kernel
theorem dL_low_0 : decode cL_low 0 = .ok (.iload_n 0, 1) := by decide +kernel
theorem dL_low_1 : decode cL_low 1 = .ok (.ldc 8, 2) := by decide +kernel
theorem dL_low_3 : decode cL_low 3 = .ok (.iand, 1) := by decide +kernel
theorem dL_low_4 : decode cL_low 4 = .ok (.iload_n 1, 1) := by decide +kernel
theorem dL_low_5 : decode cL_low 5 = .ok (.irem, 1) := by decide +kernel
theorem dL_low_6 : decode cL_low 6 = .ok (.ireturn, 1) := by decide +kernel
theorem dL_far_0 : decode cL_far 0 = .ok (.iconst 0, 1) := by decide +kernel
theorem dL_far_1 : decode cL_far 1 = .ok (.istore_n 3, 1) := by decide +kernel
theorem dL_far_2 : decode cL_far 2 = .ok (.iconst 0, 1) := by decide +kernel
theorem dL_far_3 : decode cL_far 3 = .ok (.istore 4, 2) := by decide +kernel
theorem dL_far_5 : decode cL_far 5 = .ok (.iload 4, 2) := by decide +kernel
theorem dL_far_7 : decode cL_far 7 = .ok (.bipush 6, 2) := by decide +kernel
theorem dL_far_9 : decode cL_far 9 = .ok (.if_icmp .ge 58, 3) := by decide +kernel
theorem dL_far_12 : decode cL_far 12 = .ok (.iload 4, 2) := by decide +kernel
theorem dL_far_14 : decode cL_far 14 = .ok (.iload_n 1, 1) := by decide +kernel
theorem dL_far_15 : decode cL_far 15 = .ok (.if_icmp .lt 9, 3) := by decide +kernel
theorem dL_far_18 : decode cL_far 18 = .ok (.iload 4, 2) := by decide +kernel
theorem dL_far_20 : decode cL_far 20 = .ok (.iload_n 2, 1) := by decide +kernel
theorem dL_far_21 : decode cL_far 21 = .ok (.if_icmp .lt 15, 3) := by decide +kernel
theorem dL_far_24 : decode cL_far 24 = .ok (.iload 4, 2) := by decide +kernel
theorem dL_far_26 : decode cL_far 26 = .ok (.iload_n 2, 1) := by decide +kernel
theorem dL_far_27 : decode cL_far 27 = .ok (.if_icmp .lt 13, 3) := by decide +kernel
theorem dL_far_30 : decode cL_far 30 = .ok (.iload 4, 2) := by decide +kernel
theorem dL_far_32 : decode cL_far 32 = .ok (.iload_n 1, 1) := by decide +kernel
theorem dL_far_33 : decode cL_far 33 = .ok (.if_icmp .ge 7, 3) := by decide +kernel
theorem dL_far_36 : decode cL_far 36 = .ok (.iconst 1, 1) := by decide +kernel
theorem dL_far_37 : decode cL_far 37 = .ok (.goto 4, 3) := by decide +kernel
theorem dL_far_40 : decode cL_far 40 = .ok (.iconst 0, 1) := by decide +kernel
theorem dL_far_41 : decode cL_far 41 = .ok (.istore 5, 2) := by decide +kernel
theorem dL_far_43 : decode cL_far 43 = .ok (.iload_n 3, 1) := by decide +kernel
theorem dL_far_44 : decode cL_far 44 = .ok (.iload 5, 2) := by decide +kernel
theorem dL_far_46 : decode cL_far 46 = .ok (.ifCond .eq 12, 3) := by decide +kernel
theorem dL_far_49 : decode cL_far 49 = .ok (.aload_n 0, 1) := by decide +kernel
theorem dL_far_50 : decode cL_far 50 = .ok (.iconst 1, 1) := by decide +kernel
theorem dL_far_51 : decode cL_far 51 = .ok (.iload 4, 2) := by decide +kernel
theorem dL_far_53 : decode cL_far 53 = .ok (.iadd, 1) := by decide +kernel
theorem dL_far_54 : decode cL_far 54 = .ok (.iaload, 1) := by decide +kernel
theorem dL_far_55 : decode cL_far 55 = .ok (.goto 4, 3) := by decide +kernel
theorem dL_far_58 : decode cL_far 58 = .ok (.iconst 0, 1) := by decide +kernel
theorem dL_far_59 : decode cL_far 59 = .ok (.iadd, 1) := by decide +kernel
theorem dL_far_60 : decode cL_far 60 = .ok (.istore_n 3, 1) := by decide +kernel
theorem dL_far_61 : decode cL_far 61 = .ok (.iinc 4 1, 3) := by decide +kernel
theorem dL_far_64 : decode cL_far 64 = .ok (.goto (-59), 3) := by decide +kernel
theorem dL_far_67 : decode cL_far 67 = .ok (.iload_n 3, 1) := by decide +kernel
theorem dL_far_68 : decode cL_far 68 = .ok (.ireturn, 1) := by decide +kernel
theorem dL_work_0 : decode cL_work 0 = .ok (.iconst 2, 1) := by decide +kernel
theorem dL_work_1 : decode cL_work 1 = .ok (.aload_n 1, 1) := by decide +kernel
theorem dL_work_2 : decode cL_work 2 = .ok (.bipush 8, 2) := by decide +kernel
theorem dL_work_4 : decode cL_work 4 = .ok (.iload_n 3, 1) := by decide +kernel
theorem dL_work_5 : decode cL_work 5 = .ok (.imul, 1) := by decide +kernel
theorem dL_work_6 : decode cL_work 6 = .ok (.iconst 1, 1) := by decide +kernel
theorem dL_work_7 : decode cL_work 7 = .ok (.iadd, 1) := by decide +kernel
theorem dL_work_8 : decode cL_work 8 = .ok (.iaload, 1) := by decide +kernel
theorem dL_work_9 : decode cL_work 9 = .ok (.iadd, 1) := by decide +kernel
theorem dL_work_10 : decode cL_work 10 = .ok (.aload_n 1, 1) := by decide +kernel
theorem dL_work_11 : decode cL_work 11 = .ok (.bipush 8, 2) := by decide +kernel
theorem dL_work_13 : decode cL_work 13 = .ok (.iload_n 3, 1) := by decide +kernel
theorem dL_work_14 : decode cL_work 14 = .ok (.imul, 1) := by decide +kernel
theorem dL_work_15 : decode cL_work 15 = .ok (.iconst 1, 1) := by decide +kernel
theorem dL_work_16 : decode cL_work 16 = .ok (.iadd, 1) := by decide +kernel
theorem dL_work_17 : decode cL_work 17 = .ok (.iaload, 1) := by decide +kernel
theorem dL_work_18 : decode cL_work 18 = .ok (.aload_n 2, 1) := by decide +kernel
theorem dL_work_19 : decode cL_work 19 = .ok (.bipush 8, 2) := by decide +kernel
theorem dL_work_21 : decode cL_work 21 = .ok (.iload 4, 2) := by decide +kernel
theorem dL_work_23 : decode cL_work 23 = .ok (.imul, 1) := by decide +kernel
theorem dL_work_24 : decode cL_work 24 = .ok (.iconst 1, 1) := by decide +kernel
theorem dL_work_25 : decode cL_work 25 = .ok (.iadd, 1) := by decide +kernel
theorem dL_work_26 : decode cL_work 26 = .ok (.iaload, 1) := by decide +kernel
theorem dL_work_27 : decode cL_work 27 = .ok (.iconst 5, 1) := by decide +kernel
theorem dL_work_28 : decode cL_work 28 = .ok (.idiv, 1) := by decide +kernel
theorem dL_work_29 : decode cL_work 29 = .ok (.imul, 1) := by decide +kernel
theorem dL_work_30 : decode cL_work 30 = .ok (.iadd, 1) := by decide +kernel
theorem dL_work_31 : decode cL_work 31 = .ok (.istore 5, 2) := by decide +kernel
theorem dL_work_33 : decode cL_work 33 = .ok (.iconst 0, 1) := by decide +kernel
theorem dL_work_34 : decode cL_work 34 = .ok (.istore 6, 2) := by decide +kernel
theorem dL_work_36 : decode cL_work 36 = .ok (.iconst 0, 1) := by decide +kernel
theorem dL_work_37 : decode cL_work 37 = .ok (.istore 7, 2) := by decide +kernel
theorem dL_work_39 : decode cL_work 39 = .ok (.iload 7, 2) := by decide +kernel
theorem dL_work_41 : decode cL_work 41 = .ok (.aload_n 0, 1) := by decide +kernel
theorem dL_work_42 : decode cL_work 42 = .ok (.bipush 8, 2) := by decide +kernel
theorem dL_work_44 : decode cL_work 44 = .ok (.iaload, 1) := by decide +kernel
theorem dL_work_45 : decode cL_work 45 = .ok (.if_icmp .ge 53, 3) := by decide +kernel
theorem dL_work_48 : decode cL_work 48 = .ok (.iload 7, 2) := by decide +kernel
theorem dL_work_50 : decode cL_work 50 = .ok (.iload 4, 2) := by decide +kernel
theorem dL_work_52 : decode cL_work 52 = .ok (.if_icmp .eq 36, 3) := by decide +kernel
theorem dL_work_55 : decode cL_work 55 = .ok (.aload_n 2, 1) := by decide +kernel
theorem dL_work_56 : decode cL_work 56 = .ok (.bipush 8, 2) := by decide +kernel
theorem dL_work_58 : decode cL_work 58 = .ok (.iload 7, 2) := by decide +kernel
theorem dL_work_60 : decode cL_work 60 = .ok (.imul, 1) := by decide +kernel
theorem dL_work_61 : decode cL_work 61 = .ok (.iconst 2, 1) := by decide +kernel
theorem dL_work_62 : decode cL_work 62 = .ok (.iadd, 1) := by decide +kernel
theorem dL_work_63 : decode cL_work 63 = .ok (.iaload, 1) := by decide +kernel
theorem dL_work_64 : decode cL_work 64 = .ok (.iconst 2, 1) := by decide +kernel
theorem dL_work_65 : decode cL_work 65 = .ok (.if_icmp .ne 23, 3) := by decide +kernel
theorem dL_work_68 : decode cL_work 68 = .ok (.aload_n 2, 1) := by decide +kernel
theorem dL_work_69 : decode cL_work 69 = .ok (.bipush 8, 2) := by decide +kernel
theorem dL_work_71 : decode cL_work 71 = .ok (.iload 7, 2) := by decide +kernel
theorem dL_work_73 : decode cL_work 73 = .ok (.imul, 1) := by decide +kernel
theorem dL_work_74 : decode cL_work 74 = .ok (.iaload, 1) := by decide +kernel
theorem dL_work_75 : decode cL_work 75 = .ok (.aload_n 1, 1) := by decide +kernel
theorem dL_work_76 : decode cL_work 76 = .ok (.bipush 8, 2) := by decide +kernel
theorem dL_work_78 : decode cL_work 78 = .ok (.iload_n 3, 1) := by decide +kernel
theorem dL_work_79 : decode cL_work 79 = .ok (.imul, 1) := by decide +kernel
theorem dL_work_80 : decode cL_work 80 = .ok (.iaload, 1) := by decide +kernel
theorem dL_work_81 : decode cL_work 81 = .ok (.if_icmp .ne 7, 3) := by decide +kernel
theorem dL_work_84 : decode cL_work 84 = .ok (.iconst 1, 1) := by decide +kernel
theorem dL_work_85 : decode cL_work 85 = .ok (.goto 5, 3) := by decide +kernel
theorem dL_work_88 : decode cL_work 88 = .ok (.iload 6, 2) := by decide +kernel
theorem dL_work_90 : decode cL_work 90 = .ok (.istore 6, 2) := by decide +kernel
theorem dL_work_92 : decode cL_work 92 = .ok (.iinc 7 1, 3) := by decide +kernel
theorem dL_work_95 : decode cL_work 95 = .ok (.goto (-56), 3) := by decide +kernel
theorem dL_work_98 : decode cL_work 98 = .ok (.iload 5, 2) := by decide +kernel
theorem dL_work_100 : decode cL_work 100 = .ok (.iload 6, 2) := by decide +kernel
theorem dL_work_102 : decode cL_work 102 = .ok (.isub, 1) := by decide +kernel
theorem dL_work_103 : decode cL_work 103 = .ok (.ireturn, 1) := by decide +kernel
theorem dL_choice_0 : decode cL_choice 0 = .ok (.iconst (-1), 1) := by decide +kernel
theorem dL_choice_1 : decode cL_choice 1 = .ok (.istore_n 3, 1) := by decide +kernel
theorem dL_choice_2 : decode cL_choice 2 = .ok (.iconst (-1), 1) := by decide +kernel
theorem dL_choice_3 : decode cL_choice 3 = .ok (.istore 4, 2) := by decide +kernel
theorem dL_choice_5 : decode cL_choice 5 = .ok (.iconst 0, 1) := by decide +kernel
theorem dL_choice_6 : decode cL_choice 6 = .ok (.istore 5, 2) := by decide +kernel
theorem dL_choice_8 : decode cL_choice 8 = .ok (.iload 5, 2) := by decide +kernel
theorem dL_choice_10 : decode cL_choice 10 = .ok (.aload_n 0, 1) := by decide +kernel
theorem dL_choice_11 : decode cL_choice 11 = .ok (.bipush 7, 2) := by decide +kernel
theorem dL_choice_13 : decode cL_choice 13 = .ok (.iaload, 1) := by decide +kernel
theorem dL_choice_14 : decode cL_choice 14 = .ok (.if_icmp .ge 112, 3) := by decide +kernel
theorem dL_choice_17 : decode cL_choice 17 = .ok (.aload_n 1, 1) := by decide +kernel
theorem dL_choice_18 : decode cL_choice 18 = .ok (.bipush 8, 2) := by decide +kernel
theorem dL_choice_20 : decode cL_choice 20 = .ok (.iload 5, 2) := by decide +kernel
theorem dL_choice_22 : decode cL_choice 22 = .ok (.imul, 1) := by decide +kernel
theorem dL_choice_23 : decode cL_choice 23 = .ok (.iconst 2, 1) := by decide +kernel
theorem dL_choice_24 : decode cL_choice 24 = .ok (.iadd, 1) := by decide +kernel
theorem dL_choice_25 : decode cL_choice 25 = .ok (.iaload, 1) := by decide +kernel
theorem dL_choice_26 : decode cL_choice 26 = .ok (.iconst 3, 1) := by decide +kernel
theorem dL_choice_27 : decode cL_choice 27 = .ok (.aload_n 1, 1) := by decide +kernel
theorem dL_choice_28 : decode cL_choice 28 = .ok (.bipush 8, 2) := by decide +kernel
theorem dL_choice_30 : decode cL_choice 30 = .ok (.iload 5, 2) := by decide +kernel
theorem dL_choice_32 : decode cL_choice 32 = .ok (.imul, 1) := by decide +kernel
theorem dL_choice_33 : decode cL_choice 33 = .ok (.iconst 3, 1) := by decide +kernel
theorem dL_choice_34 : decode cL_choice 34 = .ok (.iadd, 1) := by decide +kernel
theorem dL_choice_35 : decode cL_choice 35 = .ok (.iaload, 1) := by decide +kernel
theorem dL_choice_36 : decode cL_choice 36 = .ok (.imul, 1) := by decide +kernel
theorem dL_choice_37 : decode cL_choice 37 = .ok (.iadd, 1) := by decide +kernel
theorem dL_choice_38 : decode cL_choice 38 = .ok (.istore 6, 2) := by decide +kernel
theorem dL_choice_40 : decode cL_choice 40 = .ok (.aload_n 1, 1) := by decide +kernel
theorem dL_choice_41 : decode cL_choice 41 = .ok (.bipush 8, 2) := by decide +kernel
theorem dL_choice_43 : decode cL_choice 43 = .ok (.iload 5, 2) := by decide +kernel
theorem dL_choice_45 : decode cL_choice 45 = .ok (.imul, 1) := by decide +kernel
theorem dL_choice_46 : decode cL_choice 46 = .ok (.iconst 4, 1) := by decide +kernel
theorem dL_choice_47 : decode cL_choice 47 = .ok (.iadd, 1) := by decide +kernel
theorem dL_choice_48 : decode cL_choice 48 = .ok (.iaload, 1) := by decide +kernel
theorem dL_choice_49 : decode cL_choice 49 = .ok (.ifCond .ne 38, 3) := by decide +kernel
theorem dL_choice_52 : decode cL_choice 52 = .ok (.iload 6, 2) := by decide +kernel
theorem dL_choice_54 : decode cL_choice 54 = .ok (.sipush 1000, 3) := by decide +kernel
theorem dL_choice_57 : decode cL_choice 57 = .ok (.imul, 1) := by decide +kernel
theorem dL_choice_58 : decode cL_choice 58 = .ok (.sipush 500, 3) := by decide +kernel
theorem dL_choice_61 : decode cL_choice 61 = .ok (.iadd, 1) := by decide +kernel
theorem dL_choice_62 : decode cL_choice 62 = .ok (.aload_n 0, 1) := by decide +kernel
theorem dL_choice_63 : decode cL_choice 63 = .ok (.iload_n 2, 1) := by decide +kernel
theorem dL_choice_64 : decode cL_choice 64 = .ok (.aload_n 1, 1) := by decide +kernel
theorem dL_choice_65 : decode cL_choice 65 = .ok (.bipush 8, 2) := by decide +kernel
theorem dL_choice_67 : decode cL_choice 67 = .ok (.iload 5, 2) := by decide +kernel
theorem dL_choice_69 : decode cL_choice 69 = .ok (.imul, 1) := by decide +kernel
theorem dL_choice_70 : decode cL_choice 70 = .ok (.iaload, 1) := by decide +kernel
theorem dL_choice_71 : decode cL_choice 71 = .ok (.invokestatic 9, 3) := by decide +kernel
theorem dL_choice_74 : decode cL_choice 74 = .ok (.isub, 1) := by decide +kernel
theorem dL_choice_75 : decode cL_choice 75 = .ok (.bipush 20, 2) := by decide +kernel
theorem dL_choice_77 : decode cL_choice 77 = .ok (.imul, 1) := by decide +kernel
theorem dL_choice_78 : decode cL_choice 78 = .ok (.bipush 14, 2) := by decide +kernel
theorem dL_choice_80 : decode cL_choice 80 = .ok (.iadd, 1) := by decide +kernel
theorem dL_choice_81 : decode cL_choice 81 = .ok (.iload 5, 2) := by decide +kernel
theorem dL_choice_83 : decode cL_choice 83 = .ok (.isub, 1) := by decide +kernel
theorem dL_choice_84 : decode cL_choice 84 = .ok (.goto 4, 3) := by decide +kernel
theorem dL_choice_87 : decode cL_choice 87 = .ok (.iconst (-1), 1) := by decide +kernel
theorem dL_choice_88 : decode cL_choice 88 = .ok (.istore 7, 2) := by decide +kernel
theorem dL_choice_90 : decode cL_choice 90 = .ok (.iload 7, 2) := by decide +kernel
theorem dL_choice_92 : decode cL_choice 92 = .ok (.iload 4, 2) := by decide +kernel
theorem dL_choice_94 : decode cL_choice 94 = .ok (.if_icmp .le 8, 3) := by decide +kernel
theorem dL_choice_97 : decode cL_choice 97 = .ok (.iload 5, 2) := by decide +kernel
theorem dL_choice_99 : decode cL_choice 99 = .ok (.goto 4, 3) := by decide +kernel
theorem dL_choice_102 : decode cL_choice 102 = .ok (.iload_n 3, 1) := by decide +kernel
theorem dL_choice_103 : decode cL_choice 103 = .ok (.istore_n 3, 1) := by decide +kernel
theorem dL_choice_104 : decode cL_choice 104 = .ok (.iload 7, 2) := by decide +kernel
theorem dL_choice_106 : decode cL_choice 106 = .ok (.iload 4, 2) := by decide +kernel
theorem dL_choice_108 : decode cL_choice 108 = .ok (.if_icmp .le 8, 3) := by decide +kernel
theorem dL_choice_111 : decode cL_choice 111 = .ok (.iload 7, 2) := by decide +kernel
theorem dL_choice_113 : decode cL_choice 113 = .ok (.goto 5, 3) := by decide +kernel
theorem dL_choice_116 : decode cL_choice 116 = .ok (.iload 4, 2) := by decide +kernel
theorem dL_choice_118 : decode cL_choice 118 = .ok (.istore 4, 2) := by decide +kernel
theorem dL_choice_120 : decode cL_choice 120 = .ok (.iinc 5 1, 3) := by decide +kernel
theorem dL_choice_123 : decode cL_choice 123 = .ok (.goto (-115), 3) := by decide +kernel
theorem dL_choice_126 : decode cL_choice 126 = .ok (.iload_n 3, 1) := by decide +kernel
theorem dL_choice_127 : decode cL_choice 127 = .ok (.ireturn, 1) := by decide +kernel
theorem dL_minute_0 : decode cL_minute 0 = .ok (.aload_n 0, 1) := by decide +kernel
theorem dL_minute_1 : decode cL_minute 1 = .ok (.bipush 9, 2) := by decide +kernel
theorem dL_minute_3 : decode cL_minute 3 = .ok (.dup2, 1) := by decide +kernel
theorem dL_minute_4 : decode cL_minute 4 = .ok (.iaload, 1) := by decide +kernel
theorem dL_minute_5 : decode cL_minute 5 = .ok (.iconst 1, 1) := by decide +kernel
theorem dL_minute_6 : decode cL_minute 6 = .ok (.iadd, 1) := by decide +kernel
theorem dL_minute_7 : decode cL_minute 7 = .ok (.iastore, 1) := by decide +kernel
theorem dL_minute_8 : decode cL_minute 8 = .ok (.iconst 0, 1) := by decide +kernel
theorem dL_minute_9 : decode cL_minute 9 = .ok (.istore 4, 2) := by decide +kernel
theorem dL_minute_11 : decode cL_minute 11 = .ok (.iload 4, 2) := by decide +kernel
theorem dL_minute_13 : decode cL_minute 13 = .ok (.aload_n 0, 1) := by decide +kernel
theorem dL_minute_14 : decode cL_minute 14 = .ok (.bipush 7, 2) := by decide +kernel
theorem dL_minute_16 : decode cL_minute 16 = .ok (.iaload, 1) := by decide +kernel
theorem dL_minute_17 : decode cL_minute 17 = .ok (.if_icmp .ge 63, 3) := by decide +kernel
theorem dL_minute_20 : decode cL_minute 20 = .ok (.aload_n 0, 1) := by decide +kernel
theorem dL_minute_21 : decode cL_minute 21 = .ok (.bipush 9, 2) := by decide +kernel
theorem dL_minute_23 : decode cL_minute 23 = .ok (.iaload, 1) := by decide +kernel
theorem dL_minute_24 : decode cL_minute 24 = .ok (.bipush 10, 2) := by decide +kernel
theorem dL_minute_26 : decode cL_minute 26 = .ok (.irem, 1) := by decide +kernel
theorem dL_minute_27 : decode cL_minute 27 = .ok (.ifCond .ne 53, 3) := by decide +kernel
theorem dL_minute_30 : decode cL_minute 30 = .ok (.aload_n 1, 1) := by decide +kernel
theorem dL_minute_31 : decode cL_minute 31 = .ok (.bipush 8, 2) := by decide +kernel
theorem dL_minute_33 : decode cL_minute 33 = .ok (.iload 4, 2) := by decide +kernel
theorem dL_minute_35 : decode cL_minute 35 = .ok (.imul, 1) := by decide +kernel
theorem dL_minute_36 : decode cL_minute 36 = .ok (.iconst 2, 1) := by decide +kernel
theorem dL_minute_37 : decode cL_minute 37 = .ok (.iadd, 1) := by decide +kernel
theorem dL_minute_38 : decode cL_minute 38 = .ok (.dup2, 1) := by decide +kernel
theorem dL_minute_39 : decode cL_minute 39 = .ok (.iaload, 1) := by decide +kernel
theorem dL_minute_40 : decode cL_minute 40 = .ok (.aload_n 1, 1) := by decide +kernel
theorem dL_minute_41 : decode cL_minute 41 = .ok (.bipush 8, 2) := by decide +kernel
theorem dL_minute_43 : decode cL_minute 43 = .ok (.iload 4, 2) := by decide +kernel
theorem dL_minute_45 : decode cL_minute 45 = .ok (.imul, 1) := by decide +kernel
theorem dL_minute_46 : decode cL_minute 46 = .ok (.iconst 4, 1) := by decide +kernel
theorem dL_minute_47 : decode cL_minute 47 = .ok (.iadd, 1) := by decide +kernel
theorem dL_minute_48 : decode cL_minute 48 = .ok (.iaload, 1) := by decide +kernel
theorem dL_minute_49 : decode cL_minute 49 = .ok (.iconst 2, 1) := by decide +kernel
theorem dL_minute_50 : decode cL_minute 50 = .ok (.if_icmp .ge 21, 3) := by decide +kernel
theorem dL_minute_53 : decode cL_minute 53 = .ok (.aload_n 1, 1) := by decide +kernel
theorem dL_minute_54 : decode cL_minute 54 = .ok (.bipush 8, 2) := by decide +kernel
theorem dL_minute_56 : decode cL_minute 56 = .ok (.iload 4, 2) := by decide +kernel
theorem dL_minute_58 : decode cL_minute 58 = .ok (.imul, 1) := by decide +kernel
theorem dL_minute_59 : decode cL_minute 59 = .ok (.iconst 2, 1) := by decide +kernel
theorem dL_minute_60 : decode cL_minute 60 = .ok (.iadd, 1) := by decide +kernel
theorem dL_minute_61 : decode cL_minute 61 = .ok (.iaload, 1) := by decide +kernel
theorem dL_minute_62 : decode cL_minute 62 = .ok (.bipush 20, 2) := by decide +kernel
theorem dL_minute_64 : decode cL_minute 64 = .ok (.if_icmp .ge 7, 3) := by decide +kernel
theorem dL_minute_67 : decode cL_minute 67 = .ok (.iconst 1, 1) := by decide +kernel
theorem dL_minute_68 : decode cL_minute 68 = .ok (.goto 4, 3) := by decide +kernel
theorem dL_minute_71 : decode cL_minute 71 = .ok (.iconst 0, 1) := by decide +kernel
theorem dL_minute_72 : decode cL_minute 72 = .ok (.iadd, 1) := by decide +kernel
theorem dL_minute_73 : decode cL_minute 73 = .ok (.iastore, 1) := by decide +kernel
theorem dL_minute_74 : decode cL_minute 74 = .ok (.iinc 4 1, 3) := by decide +kernel
theorem dL_minute_77 : decode cL_minute 77 = .ok (.goto (-66), 3) := by decide +kernel
theorem dL_minute_80 : decode cL_minute 80 = .ok (.iconst 0, 1) := by decide +kernel
theorem dL_minute_81 : decode cL_minute 81 = .ok (.istore 4, 2) := by decide +kernel
theorem dL_minute_83 : decode cL_minute 83 = .ok (.iload 4, 2) := by decide +kernel
theorem dL_minute_85 : decode cL_minute 85 = .ok (.aload_n 0, 1) := by decide +kernel
theorem dL_minute_86 : decode cL_minute 86 = .ok (.bipush 8, 2) := by decide +kernel
theorem dL_minute_88 : decode cL_minute 88 = .ok (.iaload, 1) := by decide +kernel
theorem dL_minute_89 : decode cL_minute 89 = .ok (.if_icmp .ge 416, 3) := by decide +kernel
theorem dL_minute_92 : decode cL_minute 92 = .ok (.bipush 8, 2) := by decide +kernel
theorem dL_minute_94 : decode cL_minute 94 = .ok (.iload 4, 2) := by decide +kernel
theorem dL_minute_96 : decode cL_minute 96 = .ok (.imul, 1) := by decide +kernel
theorem dL_minute_97 : decode cL_minute 97 = .ok (.istore 5, 2) := by decide +kernel
theorem dL_minute_99 : decode cL_minute 99 = .ok (.aload_n 2, 1) := by decide +kernel
theorem dL_minute_100 : decode cL_minute 100 = .ok (.iload 5, 2) := by decide +kernel
theorem dL_minute_102 : decode cL_minute 102 = .ok (.bipush 7, 2) := by decide +kernel
theorem dL_minute_104 : decode cL_minute 104 = .ok (.iadd, 1) := by decide +kernel
theorem dL_minute_105 : decode cL_minute 105 = .ok (.dup2, 1) := by decide +kernel
theorem dL_minute_106 : decode cL_minute 106 = .ok (.iaload, 1) := by decide +kernel
theorem dL_minute_107 : decode cL_minute 107 = .ok (.aload_n 2, 1) := by decide +kernel
theorem dL_minute_108 : decode cL_minute 108 = .ok (.iload 5, 2) := by decide +kernel
theorem dL_minute_110 : decode cL_minute 110 = .ok (.iconst 2, 1) := by decide +kernel
theorem dL_minute_111 : decode cL_minute 111 = .ok (.iadd, 1) := by decide +kernel
theorem dL_minute_112 : decode cL_minute 112 = .ok (.iaload, 1) := by decide +kernel
theorem dL_minute_113 : decode cL_minute 113 = .ok (.iconst 1, 1) := by decide +kernel
theorem dL_minute_114 : decode cL_minute 114 = .ok (.if_icmp .ne 7, 3) := by decide +kernel
theorem dL_minute_117 : decode cL_minute 117 = .ok (.iconst 1, 1) := by decide +kernel
theorem dL_minute_118 : decode cL_minute 118 = .ok (.goto 4, 3) := by decide +kernel
theorem dL_minute_121 : decode cL_minute 121 = .ok (.iconst 0, 1) := by decide +kernel
theorem dL_minute_122 : decode cL_minute 122 = .ok (.iadd, 1) := by decide +kernel
theorem dL_minute_123 : decode cL_minute 123 = .ok (.iastore, 1) := by decide +kernel
theorem dL_minute_124 : decode cL_minute 124 = .ok (.aload_n 2, 1) := by decide +kernel
theorem dL_minute_125 : decode cL_minute 125 = .ok (.iload 5, 2) := by decide +kernel
theorem dL_minute_127 : decode cL_minute 127 = .ok (.iconst 3, 1) := by decide +kernel
theorem dL_minute_128 : decode cL_minute 128 = .ok (.iadd, 1) := by decide +kernel
theorem dL_minute_129 : decode cL_minute 129 = .ok (.dup2, 1) := by decide +kernel
theorem dL_minute_130 : decode cL_minute 130 = .ok (.iaload, 1) := by decide +kernel
theorem dL_minute_131 : decode cL_minute 131 = .ok (.aload_n 2, 1) := by decide +kernel
theorem dL_minute_132 : decode cL_minute 132 = .ok (.iload 5, 2) := by decide +kernel
theorem dL_minute_134 : decode cL_minute 134 = .ok (.iconst 2, 1) := by decide +kernel
theorem dL_minute_135 : decode cL_minute 135 = .ok (.iadd, 1) := by decide +kernel
theorem dL_minute_136 : decode cL_minute 136 = .ok (.iaload, 1) := by decide +kernel
theorem dL_minute_137 : decode cL_minute 137 = .ok (.ifCond .le 7, 3) := by decide +kernel
theorem dL_minute_140 : decode cL_minute 140 = .ok (.iconst 1, 1) := by decide +kernel
theorem dL_minute_141 : decode cL_minute 141 = .ok (.goto 4, 3) := by decide +kernel
theorem dL_minute_144 : decode cL_minute 144 = .ok (.iconst 0, 1) := by decide +kernel
theorem dL_minute_145 : decode cL_minute 145 = .ok (.isub, 1) := by decide +kernel
theorem dL_minute_146 : decode cL_minute 146 = .ok (.iastore, 1) := by decide +kernel
theorem dL_minute_147 : decode cL_minute 147 = .ok (.aload_n 2, 1) := by decide +kernel
theorem dL_minute_148 : decode cL_minute 148 = .ok (.iload 5, 2) := by decide +kernel
theorem dL_minute_150 : decode cL_minute 150 = .ok (.iconst 2, 1) := by decide +kernel
theorem dL_minute_151 : decode cL_minute 151 = .ok (.iadd, 1) := by decide +kernel
theorem dL_minute_152 : decode cL_minute 152 = .ok (.iaload, 1) := by decide +kernel
theorem dL_minute_153 : decode cL_minute 153 = .ok (.ifCond .le 346, 3) := by decide +kernel
theorem dL_minute_156 : decode cL_minute 156 = .ok (.aload_n 2, 1) := by decide +kernel
theorem dL_minute_157 : decode cL_minute 157 = .ok (.iload 5, 2) := by decide +kernel
theorem dL_minute_159 : decode cL_minute 159 = .ok (.iconst 3, 1) := by decide +kernel
theorem dL_minute_160 : decode cL_minute 160 = .ok (.iadd, 1) := by decide +kernel
theorem dL_minute_161 : decode cL_minute 161 = .ok (.iaload, 1) := by decide +kernel
theorem dL_minute_162 : decode cL_minute 162 = .ok (.ifCond .ne 337, 3) := by decide +kernel
theorem dL_minute_165 : decode cL_minute 165 = .ok (.bipush 8, 2) := by decide +kernel
theorem dL_minute_167 : decode cL_minute 167 = .ok (.aload_n 2, 1) := by decide +kernel
theorem dL_minute_168 : decode cL_minute 168 = .ok (.iload 5, 2) := by decide +kernel
theorem dL_minute_170 : decode cL_minute 170 = .ok (.iconst 4, 1) := by decide +kernel
theorem dL_minute_171 : decode cL_minute 171 = .ok (.iadd, 1) := by decide +kernel
theorem dL_minute_172 : decode cL_minute 172 = .ok (.iaload, 1) := by decide +kernel
theorem dL_minute_173 : decode cL_minute 173 = .ok (.ifCond .ge 7, 3) := by decide +kernel
theorem dL_minute_176 : decode cL_minute 176 = .ok (.iconst 0, 1) := by decide +kernel
theorem dL_minute_177 : decode cL_minute 177 = .ok (.goto 9, 3) := by decide +kernel
theorem dL_minute_180 : decode cL_minute 180 = .ok (.aload_n 2, 1) := by decide +kernel
theorem dL_minute_181 : decode cL_minute 181 = .ok (.iload 5, 2) := by decide +kernel
theorem dL_minute_183 : decode cL_minute 183 = .ok (.iconst 4, 1) := by decide +kernel
theorem dL_minute_184 : decode cL_minute 184 = .ok (.iadd, 1) := by decide +kernel
theorem dL_minute_185 : decode cL_minute 185 = .ok (.iaload, 1) := by decide +kernel
theorem dL_minute_186 : decode cL_minute 186 = .ok (.imul, 1) := by decide +kernel
theorem dL_minute_187 : decode cL_minute 187 = .ok (.istore 6, 2) := by decide +kernel
theorem dL_minute_189 : decode cL_minute 189 = .ok (.aload_n 2, 1) := by decide +kernel
theorem dL_minute_190 : decode cL_minute 190 = .ok (.iload 5, 2) := by decide +kernel
theorem dL_minute_192 : decode cL_minute 192 = .ok (.iconst 2, 1) := by decide +kernel
theorem dL_minute_193 : decode cL_minute 193 = .ok (.iadd, 1) := by decide +kernel
theorem dL_minute_194 : decode cL_minute 194 = .ok (.iaload, 1) := by decide +kernel
theorem dL_minute_195 : decode cL_minute 195 = .ok (.iconst 1, 1) := by decide +kernel
theorem dL_minute_196 : decode cL_minute 196 = .ok (.if_icmp .ne 48, 3) := by decide +kernel
theorem dL_minute_199 : decode cL_minute 199 = .ok (.aload_n 2, 1) := by decide +kernel
theorem dL_minute_200 : decode cL_minute 200 = .ok (.iload 5, 2) := by decide +kernel
theorem dL_minute_202 : decode cL_minute 202 = .ok (.aload_n 1, 1) := by decide +kernel
theorem dL_minute_203 : decode cL_minute 203 = .ok (.iload 6, 2) := by decide +kernel
theorem dL_minute_205 : decode cL_minute 205 = .ok (.iaload, 1) := by decide +kernel
theorem dL_minute_206 : decode cL_minute 206 = .ok (.iastore, 1) := by decide +kernel
theorem dL_minute_207 : decode cL_minute 207 = .ok (.aload_n 2, 1) := by decide +kernel
theorem dL_minute_208 : decode cL_minute 208 = .ok (.iload 5, 2) := by decide +kernel
theorem dL_minute_210 : decode cL_minute 210 = .ok (.iconst 2, 1) := by decide +kernel
theorem dL_minute_211 : decode cL_minute 211 = .ok (.iadd, 1) := by decide +kernel
theorem dL_minute_212 : decode cL_minute 212 = .ok (.iconst 0, 1) := by decide +kernel
theorem dL_minute_213 : decode cL_minute 213 = .ok (.iastore, 1) := by decide +kernel
theorem dL_minute_214 : decode cL_minute 214 = .ok (.aload_n 2, 1) := by decide +kernel
theorem dL_minute_215 : decode cL_minute 215 = .ok (.iload 5, 2) := by decide +kernel
theorem dL_minute_217 : decode cL_minute 217 = .ok (.iconst 3, 1) := by decide +kernel
theorem dL_minute_218 : decode cL_minute 218 = .ok (.iadd, 1) := by decide +kernel
theorem dL_minute_219 : decode cL_minute 219 = .ok (.aload_n 0, 1) := by decide +kernel
theorem dL_minute_220 : decode cL_minute 220 = .ok (.aload_n 1, 1) := by decide +kernel
theorem dL_minute_221 : decode cL_minute 221 = .ok (.aload_n 2, 1) := by decide +kernel
theorem dL_minute_222 : decode cL_minute 222 = .ok (.aload_n 2, 1) := by decide +kernel
theorem dL_minute_223 : decode cL_minute 223 = .ok (.iload 5, 2) := by decide +kernel
theorem dL_minute_225 : decode cL_minute 225 = .ok (.iconst 4, 1) := by decide +kernel
theorem dL_minute_226 : decode cL_minute 226 = .ok (.iadd, 1) := by decide +kernel
theorem dL_minute_227 : decode cL_minute 227 = .ok (.iaload, 1) := by decide +kernel
theorem dL_minute_228 : decode cL_minute 228 = .ok (.iload 4, 2) := by decide +kernel
theorem dL_minute_230 : decode cL_minute 230 = .ok (.invokestatic 15, 3) := by decide +kernel
theorem dL_minute_233 : decode cL_minute 233 = .ok (.iastore, 1) := by decide +kernel
theorem dL_minute_234 : decode cL_minute 234 = .ok (.aload_n 2, 1) := by decide +kernel
theorem dL_minute_235 : decode cL_minute 235 = .ok (.iload 5, 2) := by decide +kernel
theorem dL_minute_237 : decode cL_minute 237 = .ok (.iconst 2, 1) := by decide +kernel
theorem dL_minute_238 : decode cL_minute 238 = .ok (.iadd, 1) := by decide +kernel
theorem dL_minute_239 : decode cL_minute 239 = .ok (.iconst 2, 1) := by decide +kernel
theorem dL_minute_240 : decode cL_minute 240 = .ok (.iastore, 1) := by decide +kernel
theorem dL_minute_241 : decode cL_minute 241 = .ok (.goto 258, 3) := by decide +kernel
theorem dL_minute_244 : decode cL_minute 244 = .ok (.aload_n 2, 1) := by decide +kernel
theorem dL_minute_245 : decode cL_minute 245 = .ok (.iload 5, 2) := by decide +kernel
theorem dL_minute_247 : decode cL_minute 247 = .ok (.iconst 2, 1) := by decide +kernel
theorem dL_minute_248 : decode cL_minute 248 = .ok (.iadd, 1) := by decide +kernel
theorem dL_minute_249 : decode cL_minute 249 = .ok (.iaload, 1) := by decide +kernel
theorem dL_minute_250 : decode cL_minute 250 = .ok (.iconst 2, 1) := by decide +kernel
theorem dL_minute_251 : decode cL_minute 251 = .ok (.if_icmp .ne 210, 3) := by decide +kernel
theorem dL_minute_254 : decode cL_minute 254 = .ok (.aload_n 1, 1) := by decide +kernel
theorem dL_minute_255 : decode cL_minute 255 = .ok (.iload 6, 2) := by decide +kernel
theorem dL_minute_257 : decode cL_minute 257 = .ok (.iconst 4, 1) := by decide +kernel
theorem dL_minute_258 : decode cL_minute 258 = .ok (.iadd, 1) := by decide +kernel
theorem dL_minute_259 : decode cL_minute 259 = .ok (.iconst 2, 1) := by decide +kernel
theorem dL_minute_260 : decode cL_minute 260 = .ok (.iastore, 1) := by decide +kernel
theorem dL_minute_261 : decode cL_minute 261 = .ok (.aload_n 1, 1) := by decide +kernel
theorem dL_minute_262 : decode cL_minute 262 = .ok (.iload 6, 2) := by decide +kernel
theorem dL_minute_264 : decode cL_minute 264 = .ok (.bipush 6, 2) := by decide +kernel
theorem dL_minute_266 : decode cL_minute 266 = .ok (.iadd, 1) := by decide +kernel
theorem dL_minute_267 : decode cL_minute 267 = .ok (.aload_n 0, 1) := by decide +kernel
theorem dL_minute_268 : decode cL_minute 268 = .ok (.bipush 9, 2) := by decide +kernel
theorem dL_minute_270 : decode cL_minute 270 = .ok (.iaload, 1) := by decide +kernel
theorem dL_minute_271 : decode cL_minute 271 = .ok (.iastore, 1) := by decide +kernel
theorem dL_minute_272 : decode cL_minute 272 = .ok (.aload_n 0, 1) := by decide +kernel
theorem dL_minute_273 : decode cL_minute 273 = .ok (.bipush 10, 2) := by decide +kernel
theorem dL_minute_275 : decode cL_minute 275 = .ok (.dup2, 1) := by decide +kernel
theorem dL_minute_276 : decode cL_minute 276 = .ok (.iaload, 1) := by decide +kernel
theorem dL_minute_277 : decode cL_minute 277 = .ok (.aload_n 1, 1) := by decide +kernel
theorem dL_minute_278 : decode cL_minute 278 = .ok (.iload 6, 2) := by decide +kernel
theorem dL_minute_280 : decode cL_minute 280 = .ok (.bipush 7, 2) := by decide +kernel
theorem dL_minute_282 : decode cL_minute 282 = .ok (.iadd, 1) := by decide +kernel
theorem dL_minute_283 : decode cL_minute 283 = .ok (.iaload, 1) := by decide +kernel
theorem dL_minute_284 : decode cL_minute 284 = .ok (.aload_n 0, 1) := by decide +kernel
theorem dL_minute_285 : decode cL_minute 285 = .ok (.bipush 9, 2) := by decide +kernel
theorem dL_minute_287 : decode cL_minute 287 = .ok (.iaload, 1) := by decide +kernel
theorem dL_minute_288 : decode cL_minute 288 = .ok (.if_icmp .lt 7, 3) := by decide +kernel
theorem dL_minute_291 : decode cL_minute 291 = .ok (.iconst 1, 1) := by decide +kernel
theorem dL_minute_292 : decode cL_minute 292 = .ok (.goto 4, 3) := by decide +kernel
theorem dL_minute_295 : decode cL_minute 295 = .ok (.iconst 0, 1) := by decide +kernel
theorem dL_minute_296 : decode cL_minute 296 = .ok (.iadd, 1) := by decide +kernel
theorem dL_minute_297 : decode cL_minute 297 = .ok (.iastore, 1) := by decide +kernel
theorem dL_minute_298 : decode cL_minute 298 = .ok (.aload_n 0, 1) := by decide +kernel
theorem dL_minute_299 : decode cL_minute 299 = .ok (.bipush 11, 2) := by decide +kernel
theorem dL_minute_301 : decode cL_minute 301 = .ok (.dup2, 1) := by decide +kernel
theorem dL_minute_302 : decode cL_minute 302 = .ok (.iaload, 1) := by decide +kernel
theorem dL_minute_303 : decode cL_minute 303 = .ok (.aload_n 1, 1) := by decide +kernel
theorem dL_minute_304 : decode cL_minute 304 = .ok (.iload 6, 2) := by decide +kernel
theorem dL_minute_306 : decode cL_minute 306 = .ok (.bipush 7, 2) := by decide +kernel
theorem dL_minute_308 : decode cL_minute 308 = .ok (.iadd, 1) := by decide +kernel
theorem dL_minute_309 : decode cL_minute 309 = .ok (.iaload, 1) := by decide +kernel
theorem dL_minute_310 : decode cL_minute 310 = .ok (.ifCond .lt 21, 3) := by decide +kernel
theorem dL_minute_313 : decode cL_minute 313 = .ok (.aload_n 1, 1) := by decide +kernel
theorem dL_minute_314 : decode cL_minute 314 = .ok (.iload 6, 2) := by decide +kernel
theorem dL_minute_316 : decode cL_minute 316 = .ok (.bipush 7, 2) := by decide +kernel
theorem dL_minute_318 : decode cL_minute 318 = .ok (.iadd, 1) := by decide +kernel
theorem dL_minute_319 : decode cL_minute 319 = .ok (.iaload, 1) := by decide +kernel
theorem dL_minute_320 : decode cL_minute 320 = .ok (.aload_n 0, 1) := by decide +kernel
theorem dL_minute_321 : decode cL_minute 321 = .ok (.bipush 9, 2) := by decide +kernel
theorem dL_minute_323 : decode cL_minute 323 = .ok (.iaload, 1) := by decide +kernel
theorem dL_minute_324 : decode cL_minute 324 = .ok (.if_icmp .ge 7, 3) := by decide +kernel
theorem dL_minute_327 : decode cL_minute 327 = .ok (.iconst 1, 1) := by decide +kernel
theorem dL_minute_328 : decode cL_minute 328 = .ok (.goto 4, 3) := by decide +kernel
theorem dL_minute_331 : decode cL_minute 331 = .ok (.iconst 0, 1) := by decide +kernel
theorem dL_minute_332 : decode cL_minute 332 = .ok (.iadd, 1) := by decide +kernel
theorem dL_minute_333 : decode cL_minute 333 = .ok (.iastore, 1) := by decide +kernel
theorem dL_minute_334 : decode cL_minute 334 = .ok (.aload_n 3, 1) := by decide +kernel
theorem dL_minute_335 : decode cL_minute 335 = .ok (.aload_n 0, 1) := by decide +kernel
theorem dL_minute_336 : decode cL_minute 336 = .ok (.bipush 12, 2) := by decide +kernel
theorem dL_minute_338 : decode cL_minute 338 = .ok (.iaload, 1) := by decide +kernel
theorem dL_minute_339 : decode cL_minute 339 = .ok (.aload_n 2, 1) := by decide +kernel
theorem dL_minute_340 : decode cL_minute 340 = .ok (.iload 5, 2) := by decide +kernel
theorem dL_minute_342 : decode cL_minute 342 = .ok (.iconst 4, 1) := by decide +kernel
theorem dL_minute_343 : decode cL_minute 343 = .ok (.iadd, 1) := by decide +kernel
theorem dL_minute_344 : decode cL_minute 344 = .ok (.iaload, 1) := by decide +kernel
theorem dL_minute_345 : decode cL_minute 345 = .ok (.iastore, 1) := by decide +kernel
theorem dL_minute_346 : decode cL_minute 346 = .ok (.aload_n 0, 1) := by decide +kernel
theorem dL_minute_347 : decode cL_minute 347 = .ok (.bipush 12, 2) := by decide +kernel
theorem dL_minute_349 : decode cL_minute 349 = .ok (.dup2, 1) := by decide +kernel
theorem dL_minute_350 : decode cL_minute 350 = .ok (.iaload, 1) := by decide +kernel
theorem dL_minute_351 : decode cL_minute 351 = .ok (.iconst 1, 1) := by decide +kernel
theorem dL_minute_352 : decode cL_minute 352 = .ok (.iadd, 1) := by decide +kernel
theorem dL_minute_353 : decode cL_minute 353 = .ok (.iastore, 1) := by decide +kernel
theorem dL_minute_354 : decode cL_minute 354 = .ok (.aload_n 2, 1) := by decide +kernel
theorem dL_minute_355 : decode cL_minute 355 = .ok (.iload 5, 2) := by decide +kernel
theorem dL_minute_357 : decode cL_minute 357 = .ok (.iconst 1, 1) := by decide +kernel
theorem dL_minute_358 : decode cL_minute 358 = .ok (.iadd, 1) := by decide +kernel
theorem dL_minute_359 : decode cL_minute 359 = .ok (.iaload, 1) := by decide +kernel
theorem dL_minute_360 : decode cL_minute 360 = .ok (.aload_n 1, 1) := by decide +kernel
theorem dL_minute_361 : decode cL_minute 361 = .ok (.iload 6, 2) := by decide +kernel
theorem dL_minute_363 : decode cL_minute 363 = .ok (.iconst 1, 1) := by decide +kernel
theorem dL_minute_364 : decode cL_minute 364 = .ok (.iadd, 1) := by decide +kernel
theorem dL_minute_365 : decode cL_minute 365 = .ok (.iaload, 1) := by decide +kernel
theorem dL_minute_366 : decode cL_minute 366 = .ok (.iadd, 1) := by decide +kernel
theorem dL_minute_367 : decode cL_minute 367 = .ok (.istore 7, 2) := by decide +kernel
theorem dL_minute_369 : decode cL_minute 369 = .ok (.aload_n 2, 1) := by decide +kernel
theorem dL_minute_370 : decode cL_minute 370 = .ok (.iload 5, 2) := by decide +kernel
theorem dL_minute_372 : decode cL_minute 372 = .ok (.iconst 1, 1) := by decide +kernel
theorem dL_minute_373 : decode cL_minute 373 = .ok (.iadd, 1) := by decide +kernel
theorem dL_minute_374 : decode cL_minute 374 = .ok (.iload 7, 2) := by decide +kernel
theorem dL_minute_376 : decode cL_minute 376 = .ok (.bipush 30, 2) := by decide +kernel
theorem dL_minute_378 : decode cL_minute 378 = .ok (.if_icmp .le 8, 3) := by decide +kernel
theorem dL_minute_381 : decode cL_minute 381 = .ok (.bipush 30, 2) := by decide +kernel
theorem dL_minute_383 : decode cL_minute 383 = .ok (.goto 5, 3) := by decide +kernel
theorem dL_minute_386 : decode cL_minute 386 = .ok (.iload 7, 2) := by decide +kernel
theorem dL_minute_388 : decode cL_minute 388 = .ok (.iastore, 1) := by decide +kernel
theorem dL_minute_389 : decode cL_minute 389 = .ok (.aload_n 2, 1) := by decide +kernel
theorem dL_minute_390 : decode cL_minute 390 = .ok (.iload 5, 2) := by decide +kernel
theorem dL_minute_392 : decode cL_minute 392 = .ok (.iconst 2, 1) := by decide +kernel
theorem dL_minute_393 : decode cL_minute 393 = .ok (.iadd, 1) := by decide +kernel
theorem dL_minute_394 : decode cL_minute 394 = .ok (.iload 7, 2) := by decide +kernel
theorem dL_minute_396 : decode cL_minute 396 = .ok (.bipush 9, 2) := by decide +kernel
theorem dL_minute_398 : decode cL_minute 398 = .ok (.if_icmp .le 7, 3) := by decide +kernel
theorem dL_minute_401 : decode cL_minute 401 = .ok (.iconst 3, 1) := by decide +kernel
theorem dL_minute_402 : decode cL_minute 402 = .ok (.goto 4, 3) := by decide +kernel
theorem dL_minute_405 : decode cL_minute 405 = .ok (.iconst 0, 1) := by decide +kernel
theorem dL_minute_406 : decode cL_minute 406 = .ok (.iastore, 1) := by decide +kernel
theorem dL_minute_407 : decode cL_minute 407 = .ok (.aload_n 2, 1) := by decide +kernel
theorem dL_minute_408 : decode cL_minute 408 = .ok (.iload 5, 2) := by decide +kernel
theorem dL_minute_410 : decode cL_minute 410 = .ok (.iconst 3, 1) := by decide +kernel
theorem dL_minute_411 : decode cL_minute 411 = .ok (.iadd, 1) := by decide +kernel
theorem dL_minute_412 : decode cL_minute 412 = .ok (.iload 7, 2) := by decide +kernel
theorem dL_minute_414 : decode cL_minute 414 = .ok (.bipush 9, 2) := by decide +kernel
theorem dL_minute_416 : decode cL_minute 416 = .ok (.if_icmp .le 7, 3) := by decide +kernel
theorem dL_minute_419 : decode cL_minute 419 = .ok (.iconst 5, 1) := by decide +kernel
theorem dL_minute_420 : decode cL_minute 420 = .ok (.goto 4, 3) := by decide +kernel
theorem dL_minute_423 : decode cL_minute 423 = .ok (.iconst 0, 1) := by decide +kernel
theorem dL_minute_424 : decode cL_minute 424 = .ok (.iastore, 1) := by decide +kernel
theorem dL_minute_425 : decode cL_minute 425 = .ok (.aload_n 2, 1) := by decide +kernel
theorem dL_minute_426 : decode cL_minute 426 = .ok (.iload 5, 2) := by decide +kernel
theorem dL_minute_428 : decode cL_minute 428 = .ok (.iconst 4, 1) := by decide +kernel
theorem dL_minute_429 : decode cL_minute 429 = .ok (.iadd, 1) := by decide +kernel
theorem dL_minute_430 : decode cL_minute 430 = .ok (.iconst (-1), 1) := by decide +kernel
theorem dL_minute_431 : decode cL_minute 431 = .ok (.iastore, 1) := by decide +kernel
theorem dL_minute_432 : decode cL_minute 432 = .ok (.aload_n 2, 1) := by decide +kernel
theorem dL_minute_433 : decode cL_minute 433 = .ok (.iload 5, 2) := by decide +kernel
theorem dL_minute_435 : decode cL_minute 435 = .ok (.iconst 5, 1) := by decide +kernel
theorem dL_minute_436 : decode cL_minute 436 = .ok (.iadd, 1) := by decide +kernel
theorem dL_minute_437 : decode cL_minute 437 = .ok (.dup2, 1) := by decide +kernel
theorem dL_minute_438 : decode cL_minute 438 = .ok (.iaload, 1) := by decide +kernel
theorem dL_minute_439 : decode cL_minute 439 = .ok (.iconst 1, 1) := by decide +kernel
theorem dL_minute_440 : decode cL_minute 440 = .ok (.iadd, 1) := by decide +kernel
theorem dL_minute_441 : decode cL_minute 441 = .ok (.iastore, 1) := by decide +kernel
theorem dL_minute_442 : decode cL_minute 442 = .ok (.aload_n 2, 1) := by decide +kernel
theorem dL_minute_443 : decode cL_minute 443 = .ok (.iload 5, 2) := by decide +kernel
theorem dL_minute_445 : decode cL_minute 445 = .ok (.bipush 6, 2) := by decide +kernel
theorem dL_minute_447 : decode cL_minute 447 = .ok (.iadd, 1) := by decide +kernel
theorem dL_minute_448 : decode cL_minute 448 = .ok (.dup2, 1) := by decide +kernel
theorem dL_minute_449 : decode cL_minute 449 = .ok (.iaload, 1) := by decide +kernel
theorem dL_minute_450 : decode cL_minute 450 = .ok (.aload_n 1, 1) := by decide +kernel
theorem dL_minute_451 : decode cL_minute 451 = .ok (.iload 6, 2) := by decide +kernel
theorem dL_minute_453 : decode cL_minute 453 = .ok (.iconst 1, 1) := by decide +kernel
theorem dL_minute_454 : decode cL_minute 454 = .ok (.iadd, 1) := by decide +kernel
theorem dL_minute_455 : decode cL_minute 455 = .ok (.iaload, 1) := by decide +kernel
theorem dL_minute_456 : decode cL_minute 456 = .ok (.iadd, 1) := by decide +kernel
theorem dL_minute_457 : decode cL_minute 457 = .ok (.iastore, 1) := by decide +kernel
theorem dL_minute_458 : decode cL_minute 458 = .ok (.goto 41, 3) := by decide +kernel
theorem dL_minute_461 : decode cL_minute 461 = .ok (.aload_n 2, 1) := by decide +kernel
theorem dL_minute_462 : decode cL_minute 462 = .ok (.iload 5, 2) := by decide +kernel
theorem dL_minute_464 : decode cL_minute 464 = .ok (.iconst 1, 1) := by decide +kernel
theorem dL_minute_465 : decode cL_minute 465 = .ok (.iadd, 1) := by decide +kernel
theorem dL_minute_466 : decode cL_minute 466 = .ok (.dup2, 1) := by decide +kernel
theorem dL_minute_467 : decode cL_minute 467 = .ok (.iaload, 1) := by decide +kernel
theorem dL_minute_468 : decode cL_minute 468 = .ok (.aload_n 2, 1) := by decide +kernel
theorem dL_minute_469 : decode cL_minute 469 = .ok (.iload 5, 2) := by decide +kernel
theorem dL_minute_471 : decode cL_minute 471 = .ok (.iconst 1, 1) := by decide +kernel
theorem dL_minute_472 : decode cL_minute 472 = .ok (.iadd, 1) := by decide +kernel
theorem dL_minute_473 : decode cL_minute 473 = .ok (.iaload, 1) := by decide +kernel
theorem dL_minute_474 : decode cL_minute 474 = .ok (.bipush 6, 2) := by decide +kernel
theorem dL_minute_476 : decode cL_minute 476 = .ok (.if_icmp .le 8, 3) := by decide +kernel
theorem dL_minute_479 : decode cL_minute 479 = .ok (.bipush 6, 2) := by decide +kernel
theorem dL_minute_481 : decode cL_minute 481 = .ok (.goto 9, 3) := by decide +kernel
theorem dL_minute_484 : decode cL_minute 484 = .ok (.aload_n 2, 1) := by decide +kernel
theorem dL_minute_485 : decode cL_minute 485 = .ok (.iload 5, 2) := by decide +kernel
theorem dL_minute_487 : decode cL_minute 487 = .ok (.iconst 1, 1) := by decide +kernel
theorem dL_minute_488 : decode cL_minute 488 = .ok (.iadd, 1) := by decide +kernel
theorem dL_minute_489 : decode cL_minute 489 = .ok (.iaload, 1) := by decide +kernel
theorem dL_minute_490 : decode cL_minute 490 = .ok (.isub, 1) := by decide +kernel
theorem dL_minute_491 : decode cL_minute 491 = .ok (.iastore, 1) := by decide +kernel
theorem dL_minute_492 : decode cL_minute 492 = .ok (.aload_n 2, 1) := by decide +kernel
theorem dL_minute_493 : decode cL_minute 493 = .ok (.iload 5, 2) := by decide +kernel
theorem dL_minute_495 : decode cL_minute 495 = .ok (.iconst 2, 1) := by decide +kernel
theorem dL_minute_496 : decode cL_minute 496 = .ok (.iadd, 1) := by decide +kernel
theorem dL_minute_497 : decode cL_minute 497 = .ok (.iconst 0, 1) := by decide +kernel
theorem dL_minute_498 : decode cL_minute 498 = .ok (.iastore, 1) := by decide +kernel
theorem dL_minute_499 : decode cL_minute 499 = .ok (.iinc 4 1, 3) := by decide +kernel
theorem dL_minute_502 : decode cL_minute 502 = .ok (.goto (-419), 3) := by decide +kernel
theorem dL_minute_505 : decode cL_minute 505 = .ok (.iconst 0, 1) := by decide +kernel
theorem dL_minute_506 : decode cL_minute 506 = .ok (.istore 4, 2) := by decide +kernel
theorem dL_minute_508 : decode cL_minute 508 = .ok (.iload 4, 2) := by decide +kernel
theorem dL_minute_510 : decode cL_minute 510 = .ok (.aload_n 0, 1) := by decide +kernel
theorem dL_minute_511 : decode cL_minute 511 = .ok (.bipush 8, 2) := by decide +kernel
theorem dL_minute_513 : decode cL_minute 513 = .ok (.iaload, 1) := by decide +kernel
theorem dL_minute_514 : decode cL_minute 514 = .ok (.if_icmp .ge 133, 3) := by decide +kernel
theorem dL_minute_517 : decode cL_minute 517 = .ok (.bipush 8, 2) := by decide +kernel
theorem dL_minute_519 : decode cL_minute 519 = .ok (.iload 4, 2) := by decide +kernel
theorem dL_minute_521 : decode cL_minute 521 = .ok (.imul, 1) := by decide +kernel
theorem dL_minute_522 : decode cL_minute 522 = .ok (.istore 5, 2) := by decide +kernel
theorem dL_minute_524 : decode cL_minute 524 = .ok (.aload_n 2, 1) := by decide +kernel
theorem dL_minute_525 : decode cL_minute 525 = .ok (.iload 5, 2) := by decide +kernel
theorem dL_minute_527 : decode cL_minute 527 = .ok (.iconst 2, 1) := by decide +kernel
theorem dL_minute_528 : decode cL_minute 528 = .ok (.iadd, 1) := by decide +kernel
theorem dL_minute_529 : decode cL_minute 529 = .ok (.iaload, 1) := by decide +kernel
theorem dL_minute_530 : decode cL_minute 530 = .ok (.ifCond .ne 15, 3) := by decide +kernel
theorem dL_minute_533 : decode cL_minute 533 = .ok (.aload_n 0, 1) := by decide +kernel
theorem dL_minute_534 : decode cL_minute 534 = .ok (.aload_n 1, 1) := by decide +kernel
theorem dL_minute_535 : decode cL_minute 535 = .ok (.aload_n 2, 1) := by decide +kernel
theorem dL_minute_536 : decode cL_minute 536 = .ok (.iload 5, 2) := by decide +kernel
theorem dL_minute_538 : decode cL_minute 538 = .ok (.iaload, 1) := by decide +kernel
theorem dL_minute_539 : decode cL_minute 539 = .ok (.invokestatic 19, 3) := by decide +kernel
theorem dL_minute_542 : decode cL_minute 542 = .ok (.goto 4, 3) := by decide +kernel
theorem dL_minute_545 : decode cL_minute 545 = .ok (.iconst (-1), 1) := by decide +kernel
theorem dL_minute_546 : decode cL_minute 546 = .ok (.istore 6, 2) := by decide +kernel
theorem dL_minute_548 : decode cL_minute 548 = .ok (.iload 6, 2) := by decide +kernel
theorem dL_minute_550 : decode cL_minute 550 = .ok (.ifCond .lt 91, 3) := by decide +kernel
theorem dL_minute_553 : decode cL_minute 553 = .ok (.aload_n 1, 1) := by decide +kernel
theorem dL_minute_554 : decode cL_minute 554 = .ok (.bipush 8, 2) := by decide +kernel
theorem dL_minute_556 : decode cL_minute 556 = .ok (.iload 6, 2) := by decide +kernel
theorem dL_minute_558 : decode cL_minute 558 = .ok (.imul, 1) := by decide +kernel
theorem dL_minute_559 : decode cL_minute 559 = .ok (.iconst 4, 1) := by decide +kernel
theorem dL_minute_560 : decode cL_minute 560 = .ok (.iadd, 1) := by decide +kernel
theorem dL_minute_561 : decode cL_minute 561 = .ok (.iconst 1, 1) := by decide +kernel
theorem dL_minute_562 : decode cL_minute 562 = .ok (.iastore, 1) := by decide +kernel
theorem dL_minute_563 : decode cL_minute 563 = .ok (.aload_n 1, 1) := by decide +kernel
theorem dL_minute_564 : decode cL_minute 564 = .ok (.bipush 8, 2) := by decide +kernel
theorem dL_minute_566 : decode cL_minute 566 = .ok (.iload 6, 2) := by decide +kernel
theorem dL_minute_568 : decode cL_minute 568 = .ok (.imul, 1) := by decide +kernel
theorem dL_minute_569 : decode cL_minute 569 = .ok (.iconst 5, 1) := by decide +kernel
theorem dL_minute_570 : decode cL_minute 570 = .ok (.iadd, 1) := by decide +kernel
theorem dL_minute_571 : decode cL_minute 571 = .ok (.iload 4, 2) := by decide +kernel
theorem dL_minute_573 : decode cL_minute 573 = .ok (.iastore, 1) := by decide +kernel
theorem dL_minute_574 : decode cL_minute 574 = .ok (.aload_n 2, 1) := by decide +kernel
theorem dL_minute_575 : decode cL_minute 575 = .ok (.iload 5, 2) := by decide +kernel
theorem dL_minute_577 : decode cL_minute 577 = .ok (.iconst 4, 1) := by decide +kernel
theorem dL_minute_578 : decode cL_minute 578 = .ok (.iadd, 1) := by decide +kernel
theorem dL_minute_579 : decode cL_minute 579 = .ok (.iload 6, 2) := by decide +kernel
theorem dL_minute_581 : decode cL_minute 581 = .ok (.iastore, 1) := by decide +kernel
theorem dL_minute_582 : decode cL_minute 582 = .ok (.aload_n 0, 1) := by decide +kernel
theorem dL_minute_583 : decode cL_minute 583 = .ok (.aload_n 2, 1) := by decide +kernel
theorem dL_minute_584 : decode cL_minute 584 = .ok (.iload 5, 2) := by decide +kernel
theorem dL_minute_586 : decode cL_minute 586 = .ok (.iaload, 1) := by decide +kernel
theorem dL_minute_587 : decode cL_minute 587 = .ok (.aload_n 1, 1) := by decide +kernel
theorem dL_minute_588 : decode cL_minute 588 = .ok (.bipush 8, 2) := by decide +kernel
theorem dL_minute_590 : decode cL_minute 590 = .ok (.iload 6, 2) := by decide +kernel
theorem dL_minute_592 : decode cL_minute 592 = .ok (.imul, 1) := by decide +kernel
theorem dL_minute_593 : decode cL_minute 593 = .ok (.iaload, 1) := by decide +kernel
theorem dL_minute_594 : decode cL_minute 594 = .ok (.invokestatic 9, 3) := by decide +kernel
theorem dL_minute_597 : decode cL_minute 597 = .ok (.istore 7, 2) := by decide +kernel
theorem dL_minute_599 : decode cL_minute 599 = .ok (.aload_n 2, 1) := by decide +kernel
theorem dL_minute_600 : decode cL_minute 600 = .ok (.iload 5, 2) := by decide +kernel
theorem dL_minute_602 : decode cL_minute 602 = .ok (.iconst 3, 1) := by decide +kernel
theorem dL_minute_603 : decode cL_minute 603 = .ok (.iadd, 1) := by decide +kernel
theorem dL_minute_604 : decode cL_minute 604 = .ok (.iload 7, 2) := by decide +kernel
theorem dL_minute_606 : decode cL_minute 606 = .ok (.ifCond .le 8, 3) := by decide +kernel
theorem dL_minute_609 : decode cL_minute 609 = .ok (.iload 7, 2) := by decide +kernel
theorem dL_minute_611 : decode cL_minute 611 = .ok (.goto 13, 3) := by decide +kernel
theorem dL_minute_614 : decode cL_minute 614 = .ok (.aload_n 0, 1) := by decide +kernel
theorem dL_minute_615 : decode cL_minute 615 = .ok (.aload_n 1, 1) := by decide +kernel
theorem dL_minute_616 : decode cL_minute 616 = .ok (.aload_n 2, 1) := by decide +kernel
theorem dL_minute_617 : decode cL_minute 617 = .ok (.iload 6, 2) := by decide +kernel
theorem dL_minute_619 : decode cL_minute 619 = .ok (.iload 4, 2) := by decide +kernel
theorem dL_minute_621 : decode cL_minute 621 = .ok (.invokestatic 15, 3) := by decide +kernel
theorem dL_minute_624 : decode cL_minute 624 = .ok (.iastore, 1) := by decide +kernel
theorem dL_minute_625 : decode cL_minute 625 = .ok (.aload_n 2, 1) := by decide +kernel
theorem dL_minute_626 : decode cL_minute 626 = .ok (.iload 5, 2) := by decide +kernel
theorem dL_minute_628 : decode cL_minute 628 = .ok (.iconst 2, 1) := by decide +kernel
theorem dL_minute_629 : decode cL_minute 629 = .ok (.iadd, 1) := by decide +kernel
theorem dL_minute_630 : decode cL_minute 630 = .ok (.iload 7, 2) := by decide +kernel
theorem dL_minute_632 : decode cL_minute 632 = .ok (.ifCond .le 7, 3) := by decide +kernel
theorem dL_minute_635 : decode cL_minute 635 = .ok (.iconst 1, 1) := by decide +kernel
theorem dL_minute_636 : decode cL_minute 636 = .ok (.goto 4, 3) := by decide +kernel
theorem dL_minute_639 : decode cL_minute 639 = .ok (.iconst 2, 1) := by decide +kernel
theorem dL_minute_640 : decode cL_minute 640 = .ok (.iastore, 1) := by decide +kernel
theorem dL_minute_641 : decode cL_minute 641 = .ok (.iinc 4 1, 3) := by decide +kernel
theorem dL_minute_644 : decode cL_minute 644 = .ok (.goto (-136), 3) := by decide +kernel
theorem dL_minute_647 : decode cL_minute 647 = .ok (.return_, 1) := by decide +kernel
theorem dL_acts_0 : decode cL_acts 0 = .ok (.iload 5, 2) := by decide +kernel
theorem dL_acts_2 : decode cL_acts 2 = .ok (.iconst 5, 1) := by decide +kernel
theorem dL_acts_3 : decode cL_acts 3 = .ok (.ishr, 1) := by decide +kernel
theorem dL_acts_4 : decode cL_acts 4 = .ok (.ldc 23, 2) := by decide +kernel
theorem dL_acts_6 : decode cL_acts 6 = .ok (.invokestatic 24, 3) := by decide +kernel
theorem dL_acts_9 : decode cL_acts 9 = .ok (.istore 6, 2) := by decide +kernel
theorem dL_acts_11 : decode cL_acts 11 = .ok (.aload_n 1, 1) := by decide +kernel
theorem dL_acts_12 : decode cL_acts 12 = .ok (.bipush 7, 2) := by decide +kernel
theorem dL_acts_14 : decode cL_acts 14 = .ok (.iaload, 1) := by decide +kernel
theorem dL_acts_15 : decode cL_acts 15 = .ok (.istore 7, 2) := by decide +kernel
theorem dL_acts_17 : decode cL_acts 17 = .ok (.iload 7, 2) := by decide +kernel
theorem dL_acts_19 : decode cL_acts 19 = .ok (.ifCond .ne 7, 3) := by decide +kernel
theorem dL_acts_22 : decode cL_acts 22 = .ok (.iconst 0, 1) := by decide +kernel
theorem dL_acts_23 : decode cL_acts 23 = .ok (.goto 8, 3) := by decide +kernel
theorem dL_acts_26 : decode cL_acts 26 = .ok (.iload 6, 2) := by decide +kernel
theorem dL_acts_28 : decode cL_acts 28 = .ok (.iload 7, 2) := by decide +kernel
theorem dL_acts_30 : decode cL_acts 30 = .ok (.irem, 1) := by decide +kernel
theorem dL_acts_31 : decode cL_acts 31 = .ok (.istore 8, 2) := by decide +kernel
theorem dL_acts_33 : decode cL_acts 33 = .ok (.iload 5, 2) := by decide +kernel
theorem dL_acts_35 : decode cL_acts 35 = .ok (.bipush 20, 2) := by decide +kernel
theorem dL_acts_37 : decode cL_acts 37 = .ok (.invokestatic 24, 3) := by decide +kernel
theorem dL_acts_40 : decode cL_acts 40 = .ok (.tableswitch 583 0 12 #[68, 68, 125, 125, 225, 225, 340, 340, 479, 479, 479, 479, 479], 68) := by decide +kernel
theorem dL_acts_108 : decode cL_acts 108 = .ok (.iload 6, 2) := by decide +kernel
theorem dL_acts_110 : decode cL_acts 110 = .ok (.aload_n 1, 1) := by decide +kernel
theorem dL_acts_111 : decode cL_acts 111 = .ok (.iconst 0, 1) := by decide +kernel
theorem dL_acts_112 : decode cL_acts 112 = .ok (.iaload, 1) := by decide +kernel
theorem dL_acts_113 : decode cL_acts 113 = .ok (.iconst 1, 1) := by decide +kernel
theorem dL_acts_114 : decode cL_acts 114 = .ok (.isub, 1) := by decide +kernel
theorem dL_acts_115 : decode cL_acts 115 = .ok (.irem, 1) := by decide +kernel
theorem dL_acts_116 : decode cL_acts 116 = .ok (.istore 9, 2) := by decide +kernel
theorem dL_acts_118 : decode cL_acts 118 = .ok (.aload_n 1, 1) := by decide +kernel
theorem dL_acts_119 : decode cL_acts 119 = .ok (.iconst 1, 1) := by decide +kernel
theorem dL_acts_120 : decode cL_acts 120 = .ok (.iload 9, 2) := by decide +kernel
theorem dL_acts_122 : decode cL_acts 122 = .ok (.iadd, 1) := by decide +kernel
theorem dL_acts_123 : decode cL_acts 123 = .ok (.iaload, 1) := by decide +kernel
theorem dL_acts_124 : decode cL_acts 124 = .ok (.istore 10, 2) := by decide +kernel
theorem dL_acts_126 : decode cL_acts 126 = .ok (.aload_n 1, 1) := by decide +kernel
theorem dL_acts_127 : decode cL_acts 127 = .ok (.iconst 1, 1) := by decide +kernel
theorem dL_acts_128 : decode cL_acts 128 = .ok (.iload 9, 2) := by decide +kernel
theorem dL_acts_130 : decode cL_acts 130 = .ok (.iadd, 1) := by decide +kernel
theorem dL_acts_131 : decode cL_acts 131 = .ok (.iconst 1, 1) := by decide +kernel
theorem dL_acts_132 : decode cL_acts 132 = .ok (.iload 6, 2) := by decide +kernel
theorem dL_acts_134 : decode cL_acts 134 = .ok (.bipush 7, 2) := by decide +kernel
theorem dL_acts_136 : decode cL_acts 136 = .ok (.idiv, 1) := by decide +kernel
theorem dL_acts_137 : decode cL_acts 137 = .ok (.bipush 20, 2) := by decide +kernel
theorem dL_acts_139 : decode cL_acts 139 = .ok (.irem, 1) := by decide +kernel
theorem dL_acts_140 : decode cL_acts 140 = .ok (.iadd, 1) := by decide +kernel
theorem dL_acts_141 : decode cL_acts 141 = .ok (.iastore, 1) := by decide +kernel
theorem dL_acts_142 : decode cL_acts 142 = .ok (.aload_n 0, 1) := by decide +kernel
theorem dL_acts_143 : decode cL_acts 143 = .ok (.iload 9, 2) := by decide +kernel
theorem dL_acts_145 : decode cL_acts 145 = .ok (.aload_n 1, 1) := by decide +kernel
theorem dL_acts_146 : decode cL_acts 146 = .ok (.iconst 1, 1) := by decide +kernel
theorem dL_acts_147 : decode cL_acts 147 = .ok (.iload 9, 2) := by decide +kernel
theorem dL_acts_149 : decode cL_acts 149 = .ok (.iadd, 1) := by decide +kernel
theorem dL_acts_150 : decode cL_acts 150 = .ok (.iaload, 1) := by decide +kernel
theorem dL_acts_151 : decode cL_acts 151 = .ok (.invokestatic 28, 3) := by decide +kernel
theorem dL_acts_154 : decode cL_acts 154 = .ok (.iload 10, 2) := by decide +kernel
theorem dL_acts_156 : decode cL_acts 156 = .ok (.if_icmp .ne 7, 3) := by decide +kernel
theorem dL_acts_159 : decode cL_acts 159 = .ok (.iconst 1, 1) := by decide +kernel
theorem dL_acts_160 : decode cL_acts 160 = .ok (.goto 4, 3) := by decide +kernel
theorem dL_acts_163 : decode cL_acts 163 = .ok (.iconst 0, 1) := by decide +kernel
theorem dL_acts_164 : decode cL_acts 164 = .ok (.ireturn, 1) := by decide +kernel
theorem dL_acts_165 : decode cL_acts 165 = .ok (.iload 7, 2) := by decide +kernel
theorem dL_acts_167 : decode cL_acts 167 = .ok (.ifCond .eq 16, 3) := by decide +kernel
theorem dL_acts_170 : decode cL_acts 170 = .ok (.aload_n 2, 1) := by decide +kernel
theorem dL_acts_171 : decode cL_acts 171 = .ok (.bipush 8, 2) := by decide +kernel
theorem dL_acts_173 : decode cL_acts 173 = .ok (.iload 8, 2) := by decide +kernel
theorem dL_acts_175 : decode cL_acts 175 = .ok (.imul, 1) := by decide +kernel
theorem dL_acts_176 : decode cL_acts 176 = .ok (.iconst 4, 1) := by decide +kernel
theorem dL_acts_177 : decode cL_acts 177 = .ok (.iadd, 1) := by decide +kernel
theorem dL_acts_178 : decode cL_acts 178 = .ok (.iaload, 1) := by decide +kernel
theorem dL_acts_179 : decode cL_acts 179 = .ok (.iconst 2, 1) := by decide +kernel
theorem dL_acts_180 : decode cL_acts 180 = .ok (.if_icmp .ne 31, 3) := by decide +kernel
theorem dL_acts_183 : decode cL_acts 183 = .ok (.aload_n 0, 1) := by decide +kernel
theorem dL_acts_184 : decode cL_acts 184 = .ok (.iload 8, 2) := by decide +kernel
theorem dL_acts_186 : decode cL_acts 186 = .ok (.iconst 5, 1) := by decide +kernel
theorem dL_acts_187 : decode cL_acts 187 = .ok (.invokestatic 32, 3) := by decide +kernel
theorem dL_acts_190 : decode cL_acts 190 = .ok (.iload 7, 2) := by decide +kernel
theorem dL_acts_192 : decode cL_acts 192 = .ok (.ifCond .ne 8, 3) := by decide +kernel
theorem dL_acts_195 : decode cL_acts 195 = .ok (.ldc 35, 2) := by decide +kernel
theorem dL_acts_197 : decode cL_acts 197 = .ok (.goto 5, 3) := by decide +kernel
theorem dL_acts_200 : decode cL_acts 200 = .ok (.ldc 36, 2) := by decide +kernel
theorem dL_acts_202 : decode cL_acts 202 = .ok (.if_icmp .ne 7, 3) := by decide +kernel
theorem dL_acts_205 : decode cL_acts 205 = .ok (.iconst 1, 1) := by decide +kernel
theorem dL_acts_206 : decode cL_acts 206 = .ok (.goto 4, 3) := by decide +kernel
theorem dL_acts_209 : decode cL_acts 209 = .ok (.iconst 0, 1) := by decide +kernel
theorem dL_acts_210 : decode cL_acts 210 = .ok (.ireturn, 1) := by decide +kernel
theorem dL_acts_211 : decode cL_acts 211 = .ok (.aload_n 2, 1) := by decide +kernel
theorem dL_acts_212 : decode cL_acts 212 = .ok (.bipush 8, 2) := by decide +kernel
theorem dL_acts_214 : decode cL_acts 214 = .ok (.iload 8, 2) := by decide +kernel
theorem dL_acts_216 : decode cL_acts 216 = .ok (.imul, 1) := by decide +kernel
theorem dL_acts_217 : decode cL_acts 217 = .ok (.iconst 2, 1) := by decide +kernel
theorem dL_acts_218 : decode cL_acts 218 = .ok (.iadd, 1) := by decide +kernel
theorem dL_acts_219 : decode cL_acts 219 = .ok (.iaload, 1) := by decide +kernel
theorem dL_acts_220 : decode cL_acts 220 = .ok (.istore 11, 2) := by decide +kernel
theorem dL_acts_222 : decode cL_acts 222 = .ok (.aload_n 2, 1) := by decide +kernel
theorem dL_acts_223 : decode cL_acts 223 = .ok (.bipush 8, 2) := by decide +kernel
theorem dL_acts_225 : decode cL_acts 225 = .ok (.iload 8, 2) := by decide +kernel
theorem dL_acts_227 : decode cL_acts 227 = .ok (.imul, 1) := by decide +kernel
theorem dL_acts_228 : decode cL_acts 228 = .ok (.iconst 2, 1) := by decide +kernel
theorem dL_acts_229 : decode cL_acts 229 = .ok (.iadd, 1) := by decide +kernel
theorem dL_acts_230 : decode cL_acts 230 = .ok (.iload 6, 2) := by decide +kernel
theorem dL_acts_232 : decode cL_acts 232 = .ok (.bipush 8, 2) := by decide +kernel
theorem dL_acts_234 : decode cL_acts 234 = .ok (.idiv, 1) := by decide +kernel
theorem dL_acts_235 : decode cL_acts 235 = .ok (.bipush 21, 2) := by decide +kernel
theorem dL_acts_237 : decode cL_acts 237 = .ok (.irem, 1) := by decide +kernel
theorem dL_acts_238 : decode cL_acts 238 = .ok (.iastore, 1) := by decide +kernel
theorem dL_acts_239 : decode cL_acts 239 = .ok (.aload_n 0, 1) := by decide +kernel
theorem dL_acts_240 : decode cL_acts 240 = .ok (.iload 8, 2) := by decide +kernel
theorem dL_acts_242 : decode cL_acts 242 = .ok (.aload_n 2, 1) := by decide +kernel
theorem dL_acts_243 : decode cL_acts 243 = .ok (.bipush 8, 2) := by decide +kernel
theorem dL_acts_245 : decode cL_acts 245 = .ok (.iload 8, 2) := by decide +kernel
theorem dL_acts_247 : decode cL_acts 247 = .ok (.imul, 1) := by decide +kernel
theorem dL_acts_248 : decode cL_acts 248 = .ok (.iconst 2, 1) := by decide +kernel
theorem dL_acts_249 : decode cL_acts 249 = .ok (.iadd, 1) := by decide +kernel
theorem dL_acts_250 : decode cL_acts 250 = .ok (.iaload, 1) := by decide +kernel
theorem dL_acts_251 : decode cL_acts 251 = .ok (.invokestatic 32, 3) := by decide +kernel
theorem dL_acts_254 : decode cL_acts 254 = .ok (.iload 11, 2) := by decide +kernel
theorem dL_acts_256 : decode cL_acts 256 = .ok (.if_icmp .ne 7, 3) := by decide +kernel
theorem dL_acts_259 : decode cL_acts 259 = .ok (.iconst 1, 1) := by decide +kernel
theorem dL_acts_260 : decode cL_acts 260 = .ok (.goto 4, 3) := by decide +kernel
theorem dL_acts_263 : decode cL_acts 263 = .ok (.iconst 0, 1) := by decide +kernel
theorem dL_acts_264 : decode cL_acts 264 = .ok (.ireturn, 1) := by decide +kernel
theorem dL_acts_265 : decode cL_acts 265 = .ok (.aload_n 1, 1) := by decide +kernel
theorem dL_acts_266 : decode cL_acts 266 = .ok (.bipush 8, 2) := by decide +kernel
theorem dL_acts_268 : decode cL_acts 268 = .ok (.iaload, 1) := by decide +kernel
theorem dL_acts_269 : decode cL_acts 269 = .ok (.ifCond .ne 19, 3) := by decide +kernel
theorem dL_acts_272 : decode cL_acts 272 = .ok (.aload_n 0, 1) := by decide +kernel
theorem dL_acts_273 : decode cL_acts 273 = .ok (.iconst 0, 1) := by decide +kernel
theorem dL_acts_274 : decode cL_acts 274 = .ok (.invokestatic 37, 3) := by decide +kernel
theorem dL_acts_277 : decode cL_acts 277 = .ok (.ldc 35, 2) := by decide +kernel
theorem dL_acts_279 : decode cL_acts 279 = .ok (.if_icmp .ne 7, 3) := by decide +kernel
theorem dL_acts_282 : decode cL_acts 282 = .ok (.iconst 1, 1) := by decide +kernel
theorem dL_acts_283 : decode cL_acts 283 = .ok (.goto 4, 3) := by decide +kernel
theorem dL_acts_286 : decode cL_acts 286 = .ok (.iconst 0, 1) := by decide +kernel
theorem dL_acts_287 : decode cL_acts 287 = .ok (.ireturn, 1) := by decide +kernel
theorem dL_acts_288 : decode cL_acts 288 = .ok (.iload 6, 2) := by decide +kernel
theorem dL_acts_290 : decode cL_acts 290 = .ok (.aload_n 1, 1) := by decide +kernel
theorem dL_acts_291 : decode cL_acts 291 = .ok (.bipush 8, 2) := by decide +kernel
theorem dL_acts_293 : decode cL_acts 293 = .ok (.iaload, 1) := by decide +kernel
theorem dL_acts_294 : decode cL_acts 294 = .ok (.irem, 1) := by decide +kernel
theorem dL_acts_295 : decode cL_acts 295 = .ok (.istore 12, 2) := by decide +kernel
theorem dL_acts_297 : decode cL_acts 297 = .ok (.aload_n 3, 1) := by decide +kernel
theorem dL_acts_298 : decode cL_acts 298 = .ok (.bipush 8, 2) := by decide +kernel
theorem dL_acts_300 : decode cL_acts 300 = .ok (.iload 12, 2) := by decide +kernel
theorem dL_acts_302 : decode cL_acts 302 = .ok (.imul, 1) := by decide +kernel
theorem dL_acts_303 : decode cL_acts 303 = .ok (.iconst 4, 1) := by decide +kernel
theorem dL_acts_304 : decode cL_acts 304 = .ok (.iadd, 1) := by decide +kernel
theorem dL_acts_305 : decode cL_acts 305 = .ok (.iaload, 1) := by decide +kernel
theorem dL_acts_306 : decode cL_acts 306 = .ok (.istore 13, 2) := by decide +kernel
theorem dL_acts_308 : decode cL_acts 308 = .ok (.iload 13, 2) := by decide +kernel
theorem dL_acts_310 : decode cL_acts 310 = .ok (.ifCond .lt 23, 3) := by decide +kernel
theorem dL_acts_313 : decode cL_acts 313 = .ok (.aload_n 2, 1) := by decide +kernel
theorem dL_acts_314 : decode cL_acts 314 = .ok (.bipush 8, 2) := by decide +kernel
theorem dL_acts_316 : decode cL_acts 316 = .ok (.iload 13, 2) := by decide +kernel
theorem dL_acts_318 : decode cL_acts 318 = .ok (.imul, 1) := by decide +kernel
theorem dL_acts_319 : decode cL_acts 319 = .ok (.iconst 4, 1) := by decide +kernel
theorem dL_acts_320 : decode cL_acts 320 = .ok (.iadd, 1) := by decide +kernel
theorem dL_acts_321 : decode cL_acts 321 = .ok (.iconst 0, 1) := by decide +kernel
theorem dL_acts_322 : decode cL_acts 322 = .ok (.iastore, 1) := by decide +kernel
theorem dL_acts_323 : decode cL_acts 323 = .ok (.aload_n 2, 1) := by decide +kernel
theorem dL_acts_324 : decode cL_acts 324 = .ok (.bipush 8, 2) := by decide +kernel
theorem dL_acts_326 : decode cL_acts 326 = .ok (.iload 13, 2) := by decide +kernel
theorem dL_acts_328 : decode cL_acts 328 = .ok (.imul, 1) := by decide +kernel
theorem dL_acts_329 : decode cL_acts 329 = .ok (.iconst 5, 1) := by decide +kernel
theorem dL_acts_330 : decode cL_acts 330 = .ok (.iadd, 1) := by decide +kernel
theorem dL_acts_331 : decode cL_acts 331 = .ok (.iconst (-1), 1) := by decide +kernel
theorem dL_acts_332 : decode cL_acts 332 = .ok (.iastore, 1) := by decide +kernel
theorem dL_acts_333 : decode cL_acts 333 = .ok (.aload_n 3, 1) := by decide +kernel
theorem dL_acts_334 : decode cL_acts 334 = .ok (.bipush 8, 2) := by decide +kernel
theorem dL_acts_336 : decode cL_acts 336 = .ok (.iload 12, 2) := by decide +kernel
theorem dL_acts_338 : decode cL_acts 338 = .ok (.imul, 1) := by decide +kernel
theorem dL_acts_339 : decode cL_acts 339 = .ok (.iconst 2, 1) := by decide +kernel
theorem dL_acts_340 : decode cL_acts 340 = .ok (.iadd, 1) := by decide +kernel
theorem dL_acts_341 : decode cL_acts 341 = .ok (.iconst 0, 1) := by decide +kernel
theorem dL_acts_342 : decode cL_acts 342 = .ok (.iastore, 1) := by decide +kernel
theorem dL_acts_343 : decode cL_acts 343 = .ok (.aload_n 3, 1) := by decide +kernel
theorem dL_acts_344 : decode cL_acts 344 = .ok (.bipush 8, 2) := by decide +kernel
theorem dL_acts_346 : decode cL_acts 346 = .ok (.iload 12, 2) := by decide +kernel
theorem dL_acts_348 : decode cL_acts 348 = .ok (.imul, 1) := by decide +kernel
theorem dL_acts_349 : decode cL_acts 349 = .ok (.iconst 3, 1) := by decide +kernel
theorem dL_acts_350 : decode cL_acts 350 = .ok (.iadd, 1) := by decide +kernel
theorem dL_acts_351 : decode cL_acts 351 = .ok (.iconst 0, 1) := by decide +kernel
theorem dL_acts_352 : decode cL_acts 352 = .ok (.iastore, 1) := by decide +kernel
theorem dL_acts_353 : decode cL_acts 353 = .ok (.aload_n 3, 1) := by decide +kernel
theorem dL_acts_354 : decode cL_acts 354 = .ok (.bipush 8, 2) := by decide +kernel
theorem dL_acts_356 : decode cL_acts 356 = .ok (.iload 12, 2) := by decide +kernel
theorem dL_acts_358 : decode cL_acts 358 = .ok (.imul, 1) := by decide +kernel
theorem dL_acts_359 : decode cL_acts 359 = .ok (.iconst 4, 1) := by decide +kernel
theorem dL_acts_360 : decode cL_acts 360 = .ok (.iadd, 1) := by decide +kernel
theorem dL_acts_361 : decode cL_acts 361 = .ok (.iconst (-1), 1) := by decide +kernel
theorem dL_acts_362 : decode cL_acts 362 = .ok (.iastore, 1) := by decide +kernel
theorem dL_acts_363 : decode cL_acts 363 = .ok (.aload_n 0, 1) := by decide +kernel
theorem dL_acts_364 : decode cL_acts 364 = .ok (.iload 12, 2) := by decide +kernel
theorem dL_acts_366 : decode cL_acts 366 = .ok (.invokestatic 37, 3) := by decide +kernel
theorem dL_acts_369 : decode cL_acts 369 = .ok (.iload 13, 2) := by decide +kernel
theorem dL_acts_371 : decode cL_acts 371 = .ok (.if_icmp .ne 7, 3) := by decide +kernel
theorem dL_acts_374 : decode cL_acts 374 = .ok (.iconst 1, 1) := by decide +kernel
theorem dL_acts_375 : decode cL_acts 375 = .ok (.goto 4, 3) := by decide +kernel
theorem dL_acts_378 : decode cL_acts 378 = .ok (.iconst 0, 1) := by decide +kernel
theorem dL_acts_379 : decode cL_acts 379 = .ok (.ireturn, 1) := by decide +kernel
theorem dL_acts_380 : decode cL_acts 380 = .ok (.aload_n 1, 1) := by decide +kernel
theorem dL_acts_381 : decode cL_acts 381 = .ok (.bipush 8, 2) := by decide +kernel
theorem dL_acts_383 : decode cL_acts 383 = .ok (.iaload, 1) := by decide +kernel
theorem dL_acts_384 : decode cL_acts 384 = .ok (.iconst 4, 1) := by decide +kernel
theorem dL_acts_385 : decode cL_acts 385 = .ok (.if_icmp .ne 21, 3) := by decide +kernel
theorem dL_acts_388 : decode cL_acts 388 = .ok (.aload_n 0, 1) := by decide +kernel
theorem dL_acts_389 : decode cL_acts 389 = .ok (.iconst 0, 1) := by decide +kernel
theorem dL_acts_390 : decode cL_acts 390 = .ok (.bipush 31, 2) := by decide +kernel
theorem dL_acts_392 : decode cL_acts 392 = .ok (.invokestatic 41, 3) := by decide +kernel
theorem dL_acts_395 : decode cL_acts 395 = .ok (.ldc 44, 2) := by decide +kernel
theorem dL_acts_397 : decode cL_acts 397 = .ok (.if_icmp .ne 7, 3) := by decide +kernel
theorem dL_acts_400 : decode cL_acts 400 = .ok (.iconst 1, 1) := by decide +kernel
theorem dL_acts_401 : decode cL_acts 401 = .ok (.goto 4, 3) := by decide +kernel
theorem dL_acts_404 : decode cL_acts 404 = .ok (.iconst 0, 1) := by decide +kernel
theorem dL_acts_405 : decode cL_acts 405 = .ok (.ireturn, 1) := by decide +kernel
theorem dL_acts_406 : decode cL_acts 406 = .ok (.bipush 8, 2) := by decide +kernel
theorem dL_acts_408 : decode cL_acts 408 = .ok (.aload_n 1, 1) := by decide +kernel
theorem dL_acts_409 : decode cL_acts 409 = .ok (.bipush 8, 2) := by decide +kernel
theorem dL_acts_411 : decode cL_acts 411 = .ok (.iaload, 1) := by decide +kernel
theorem dL_acts_412 : decode cL_acts 412 = .ok (.imul, 1) := by decide +kernel
theorem dL_acts_413 : decode cL_acts 413 = .ok (.istore 14, 2) := by decide +kernel
theorem dL_acts_415 : decode cL_acts 415 = .ok (.iconst 0, 1) := by decide +kernel
theorem dL_acts_416 : decode cL_acts 416 = .ok (.istore 15, 2) := by decide +kernel
theorem dL_acts_418 : decode cL_acts 418 = .ok (.iload 15, 2) := by decide +kernel
theorem dL_acts_420 : decode cL_acts 420 = .ok (.bipush 8, 2) := by decide +kernel
theorem dL_acts_422 : decode cL_acts 422 = .ok (.if_icmp .ge 17, 3) := by decide +kernel
theorem dL_acts_425 : decode cL_acts 425 = .ok (.aload_n 3, 1) := by decide +kernel
theorem dL_acts_426 : decode cL_acts 426 = .ok (.iload 14, 2) := by decide +kernel
theorem dL_acts_428 : decode cL_acts 428 = .ok (.iload 15, 2) := by decide +kernel
theorem dL_acts_430 : decode cL_acts 430 = .ok (.iadd, 1) := by decide +kernel
theorem dL_acts_431 : decode cL_acts 431 = .ok (.iconst 0, 1) := by decide +kernel
theorem dL_acts_432 : decode cL_acts 432 = .ok (.iastore, 1) := by decide +kernel
theorem dL_acts_433 : decode cL_acts 433 = .ok (.iinc 15 1, 3) := by decide +kernel
theorem dL_acts_436 : decode cL_acts 436 = .ok (.goto (-18), 3) := by decide +kernel
theorem dL_acts_439 : decode cL_acts 439 = .ok (.aload_n 3, 1) := by decide +kernel
theorem dL_acts_440 : decode cL_acts 440 = .ok (.iload 14, 2) := by decide +kernel
theorem dL_acts_442 : decode cL_acts 442 = .ok (.iload 6, 2) := by decide +kernel
theorem dL_acts_444 : decode cL_acts 444 = .ok (.aload_n 1, 1) := by decide +kernel
theorem dL_acts_445 : decode cL_acts 445 = .ok (.iconst 0, 1) := by decide +kernel
theorem dL_acts_446 : decode cL_acts 446 = .ok (.iaload, 1) := by decide +kernel
theorem dL_acts_447 : decode cL_acts 447 = .ok (.irem, 1) := by decide +kernel
theorem dL_acts_448 : decode cL_acts 448 = .ok (.iastore, 1) := by decide +kernel
theorem dL_acts_449 : decode cL_acts 449 = .ok (.aload_n 3, 1) := by decide +kernel
theorem dL_acts_450 : decode cL_acts 450 = .ok (.iload 14, 2) := by decide +kernel
theorem dL_acts_452 : decode cL_acts 452 = .ok (.iconst 1, 1) := by decide +kernel
theorem dL_acts_453 : decode cL_acts 453 = .ok (.iadd, 1) := by decide +kernel
theorem dL_acts_454 : decode cL_acts 454 = .ok (.iload 6, 2) := by decide +kernel
theorem dL_acts_456 : decode cL_acts 456 = .ok (.bipush 7, 2) := by decide +kernel
theorem dL_acts_458 : decode cL_acts 458 = .ok (.idiv, 1) := by decide +kernel
theorem dL_acts_459 : decode cL_acts 459 = .ok (.iload 6, 2) := by decide +kernel
theorem dL_acts_461 : decode cL_acts 461 = .ok (.iconst 3, 1) := by decide +kernel
theorem dL_acts_462 : decode cL_acts 462 = .ok (.irem, 1) := by decide +kernel
theorem dL_acts_463 : decode cL_acts 463 = .ok (.ifCond .ne 8, 3) := by decide +kernel
theorem dL_acts_466 : decode cL_acts 466 = .ok (.bipush 31, 2) := by decide +kernel
theorem dL_acts_468 : decode cL_acts 468 = .ok (.goto 5, 3) := by decide +kernel
theorem dL_acts_471 : decode cL_acts 471 = .ok (.bipush 8, 2) := by decide +kernel
theorem dL_acts_473 : decode cL_acts 473 = .ok (.irem, 1) := by decide +kernel
theorem dL_acts_474 : decode cL_acts 474 = .ok (.iastore, 1) := by decide +kernel
theorem dL_acts_475 : decode cL_acts 475 = .ok (.aload_n 3, 1) := by decide +kernel
theorem dL_acts_476 : decode cL_acts 476 = .ok (.iload 14, 2) := by decide +kernel
theorem dL_acts_478 : decode cL_acts 478 = .ok (.iconst 4, 1) := by decide +kernel
theorem dL_acts_479 : decode cL_acts 479 = .ok (.iadd, 1) := by decide +kernel
theorem dL_acts_480 : decode cL_acts 480 = .ok (.iconst (-1), 1) := by decide +kernel
theorem dL_acts_481 : decode cL_acts 481 = .ok (.iastore, 1) := by decide +kernel
theorem dL_acts_482 : decode cL_acts 482 = .ok (.aload_n 1, 1) := by decide +kernel
theorem dL_acts_483 : decode cL_acts 483 = .ok (.bipush 8, 2) := by decide +kernel
theorem dL_acts_485 : decode cL_acts 485 = .ok (.dup2, 1) := by decide +kernel
theorem dL_acts_486 : decode cL_acts 486 = .ok (.iaload, 1) := by decide +kernel
theorem dL_acts_487 : decode cL_acts 487 = .ok (.iconst 1, 1) := by decide +kernel
theorem dL_acts_488 : decode cL_acts 488 = .ok (.iadd, 1) := by decide +kernel
theorem dL_acts_489 : decode cL_acts 489 = .ok (.iastore, 1) := by decide +kernel
theorem dL_acts_490 : decode cL_acts 490 = .ok (.aload_n 0, 1) := by decide +kernel
theorem dL_acts_491 : decode cL_acts 491 = .ok (.aload_n 3, 1) := by decide +kernel
theorem dL_acts_492 : decode cL_acts 492 = .ok (.iload 14, 2) := by decide +kernel
theorem dL_acts_494 : decode cL_acts 494 = .ok (.iaload, 1) := by decide +kernel
theorem dL_acts_495 : decode cL_acts 495 = .ok (.aload_n 3, 1) := by decide +kernel
theorem dL_acts_496 : decode cL_acts 496 = .ok (.iload 14, 2) := by decide +kernel
theorem dL_acts_498 : decode cL_acts 498 = .ok (.iconst 1, 1) := by decide +kernel
theorem dL_acts_499 : decode cL_acts 499 = .ok (.iadd, 1) := by decide +kernel
theorem dL_acts_500 : decode cL_acts 500 = .ok (.iaload, 1) := by decide +kernel
theorem dL_acts_501 : decode cL_acts 501 = .ok (.invokestatic 41, 3) := by decide +kernel
theorem dL_acts_504 : decode cL_acts 504 = .ok (.aload_n 1, 1) := by decide +kernel
theorem dL_acts_505 : decode cL_acts 505 = .ok (.bipush 8, 2) := by decide +kernel
theorem dL_acts_507 : decode cL_acts 507 = .ok (.iaload, 1) := by decide +kernel
theorem dL_acts_508 : decode cL_acts 508 = .ok (.iconst 1, 1) := by decide +kernel
theorem dL_acts_509 : decode cL_acts 509 = .ok (.isub, 1) := by decide +kernel
theorem dL_acts_510 : decode cL_acts 510 = .ok (.if_icmp .ne 7, 3) := by decide +kernel
theorem dL_acts_513 : decode cL_acts 513 = .ok (.iconst 1, 1) := by decide +kernel
theorem dL_acts_514 : decode cL_acts 514 = .ok (.goto 4, 3) := by decide +kernel
theorem dL_acts_517 : decode cL_acts 517 = .ok (.iconst 0, 1) := by decide +kernel
theorem dL_acts_518 : decode cL_acts 518 = .ok (.ireturn, 1) := by decide +kernel
theorem dL_acts_519 : decode cL_acts 519 = .ok (.iconst 1, 1) := by decide +kernel
theorem dL_acts_520 : decode cL_acts 520 = .ok (.iload 6, 2) := by decide +kernel
theorem dL_acts_522 : decode cL_acts 522 = .ok (.iload 6, 2) := by decide +kernel
theorem dL_acts_524 : decode cL_acts 524 = .ok (.bipush 6, 2) := by decide +kernel
theorem dL_acts_526 : decode cL_acts 526 = .ok (.irem, 1) := by decide +kernel
theorem dL_acts_527 : decode cL_acts 527 = .ok (.ifCond .ne 8, 3) := by decide +kernel
theorem dL_acts_530 : decode cL_acts 530 = .ok (.bipush 60, 2) := by decide +kernel
theorem dL_acts_532 : decode cL_acts 532 = .ok (.goto 5, 3) := by decide +kernel
theorem dL_acts_535 : decode cL_acts 535 = .ok (.bipush 9, 2) := by decide +kernel
theorem dL_acts_537 : decode cL_acts 537 = .ok (.irem, 1) := by decide +kernel
theorem dL_acts_538 : decode cL_acts 538 = .ok (.iadd, 1) := by decide +kernel
theorem dL_acts_539 : decode cL_acts 539 = .ok (.istore 15, 2) := by decide +kernel
theorem dL_acts_541 : decode cL_acts 541 = .ok (.aload_n 1, 1) := by decide +kernel
theorem dL_acts_542 : decode cL_acts 542 = .ok (.bipush 9, 2) := by decide +kernel
theorem dL_acts_544 : decode cL_acts 544 = .ok (.iaload, 1) := by decide +kernel
theorem dL_acts_545 : decode cL_acts 545 = .ok (.iload 15, 2) := by decide +kernel
theorem dL_acts_547 : decode cL_acts 547 = .ok (.iadd, 1) := by decide +kernel
theorem dL_acts_548 : decode cL_acts 548 = .ok (.sipush 5000, 3) := by decide +kernel
theorem dL_acts_551 : decode cL_acts 551 = .ok (.if_icmp .le 20, 3) := by decide +kernel
theorem dL_acts_554 : decode cL_acts 554 = .ok (.aload_n 0, 1) := by decide +kernel
theorem dL_acts_555 : decode cL_acts 555 = .ok (.iload 15, 2) := by decide +kernel
theorem dL_acts_557 : decode cL_acts 557 = .ok (.invokestatic 45, 3) := by decide +kernel
theorem dL_acts_560 : decode cL_acts 560 = .ok (.ldc 36, 2) := by decide +kernel
theorem dL_acts_562 : decode cL_acts 562 = .ok (.if_icmp .ne 7, 3) := by decide +kernel
theorem dL_acts_565 : decode cL_acts 565 = .ok (.iconst 1, 1) := by decide +kernel
theorem dL_acts_566 : decode cL_acts 566 = .ok (.goto 4, 3) := by decide +kernel
theorem dL_acts_569 : decode cL_acts 569 = .ok (.iconst 0, 1) := by decide +kernel
theorem dL_acts_570 : decode cL_acts 570 = .ok (.ireturn, 1) := by decide +kernel
theorem dL_acts_571 : decode cL_acts 571 = .ok (.aload_n 1, 1) := by decide +kernel
theorem dL_acts_572 : decode cL_acts 572 = .ok (.bipush 12, 2) := by decide +kernel
theorem dL_acts_574 : decode cL_acts 574 = .ok (.iaload, 1) := by decide +kernel
theorem dL_acts_575 : decode cL_acts 575 = .ok (.istore 16, 2) := by decide +kernel
theorem dL_acts_577 : decode cL_acts 577 = .ok (.iconst 0, 1) := by decide +kernel
theorem dL_acts_578 : decode cL_acts 578 = .ok (.istore 17, 2) := by decide +kernel
theorem dL_acts_580 : decode cL_acts 580 = .ok (.iload 17, 2) := by decide +kernel
theorem dL_acts_582 : decode cL_acts 582 = .ok (.iload 15, 2) := by decide +kernel
theorem dL_acts_584 : decode cL_acts 584 = .ok (.if_icmp .ge 17, 3) := by decide +kernel
theorem dL_acts_587 : decode cL_acts 587 = .ok (.aload_n 1, 1) := by decide +kernel
theorem dL_acts_588 : decode cL_acts 588 = .ok (.aload_n 2, 1) := by decide +kernel
theorem dL_acts_589 : decode cL_acts 589 = .ok (.aload_n 3, 1) := by decide +kernel
theorem dL_acts_590 : decode cL_acts 590 = .ok (.aload 4, 2) := by decide +kernel
theorem dL_acts_592 : decode cL_acts 592 = .ok (.invokestatic 48, 3) := by decide +kernel
theorem dL_acts_595 : decode cL_acts 595 = .ok (.iinc 17 1, 3) := by decide +kernel
theorem dL_acts_598 : decode cL_acts 598 = .ok (.goto (-18), 3) := by decide +kernel
theorem dL_acts_601 : decode cL_acts 601 = .ok (.aload_n 0, 1) := by decide +kernel
theorem dL_acts_602 : decode cL_acts 602 = .ok (.iload 15, 2) := by decide +kernel
theorem dL_acts_604 : decode cL_acts 604 = .ok (.invokestatic 45, 3) := by decide +kernel
theorem dL_acts_607 : decode cL_acts 607 = .ok (.aload_n 1, 1) := by decide +kernel
theorem dL_acts_608 : decode cL_acts 608 = .ok (.bipush 12, 2) := by decide +kernel
theorem dL_acts_610 : decode cL_acts 610 = .ok (.iaload, 1) := by decide +kernel
theorem dL_acts_611 : decode cL_acts 611 = .ok (.iload 16, 2) := by decide +kernel
theorem dL_acts_613 : decode cL_acts 613 = .ok (.isub, 1) := by decide +kernel
theorem dL_acts_614 : decode cL_acts 614 = .ok (.if_icmp .ne 7, 3) := by decide +kernel
theorem dL_acts_617 : decode cL_acts 617 = .ok (.iconst 1, 1) := by decide +kernel
theorem dL_acts_618 : decode cL_acts 618 = .ok (.goto 4, 3) := by decide +kernel
theorem dL_acts_621 : decode cL_acts 621 = .ok (.iconst 0, 1) := by decide +kernel
theorem dL_acts_622 : decode cL_acts 622 = .ok (.ireturn, 1) := by decide +kernel
theorem dL_acts_623 : decode cL_acts 623 = .ok (.iload 7, 2) := by decide +kernel
theorem dL_acts_625 : decode cL_acts 625 = .ok (.bipush 8, 2) := by decide +kernel
theorem dL_acts_627 : decode cL_acts 627 = .ok (.if_icmp .ne 22, 3) := by decide +kernel
theorem dL_acts_630 : decode cL_acts 630 = .ok (.aload_n 0, 1) := by decide +kernel
theorem dL_acts_631 : decode cL_acts 631 = .ok (.iconst 0, 1) := by decide +kernel
theorem dL_acts_632 : decode cL_acts 632 = .ok (.iconst 5, 1) := by decide +kernel
theorem dL_acts_633 : decode cL_acts 633 = .ok (.iconst 0, 1) := by decide +kernel
theorem dL_acts_634 : decode cL_acts 634 = .ok (.iconst 1, 1) := by decide +kernel
theorem dL_acts_635 : decode cL_acts 635 = .ok (.invokestatic 52, 3) := by decide +kernel
theorem dL_acts_638 : decode cL_acts 638 = .ok (.ldc 44, 2) := by decide +kernel
theorem dL_acts_640 : decode cL_acts 640 = .ok (.if_icmp .ne 7, 3) := by decide +kernel
theorem dL_acts_643 : decode cL_acts 643 = .ok (.iconst 1, 1) := by decide +kernel
theorem dL_acts_644 : decode cL_acts 644 = .ok (.goto 4, 3) := by decide +kernel
theorem dL_acts_647 : decode cL_acts 647 = .ok (.iconst 0, 1) := by decide +kernel
theorem dL_acts_648 : decode cL_acts 648 = .ok (.ireturn, 1) := by decide +kernel
theorem dL_acts_649 : decode cL_acts 649 = .ok (.bipush 8, 2) := by decide +kernel
theorem dL_acts_651 : decode cL_acts 651 = .ok (.iload 7, 2) := by decide +kernel
theorem dL_acts_653 : decode cL_acts 653 = .ok (.imul, 1) := by decide +kernel
theorem dL_acts_654 : decode cL_acts 654 = .ok (.istore 17, 2) := by decide +kernel
theorem dL_acts_656 : decode cL_acts 656 = .ok (.aload_n 2, 1) := by decide +kernel
theorem dL_acts_657 : decode cL_acts 657 = .ok (.iload 17, 2) := by decide +kernel
theorem dL_acts_659 : decode cL_acts 659 = .ok (.iload 6, 2) := by decide +kernel
theorem dL_acts_661 : decode cL_acts 661 = .ok (.aload_n 1, 1) := by decide +kernel
theorem dL_acts_662 : decode cL_acts 662 = .ok (.iconst 0, 1) := by decide +kernel
theorem dL_acts_663 : decode cL_acts 663 = .ok (.iaload, 1) := by decide +kernel
theorem dL_acts_664 : decode cL_acts 664 = .ok (.irem, 1) := by decide +kernel
theorem dL_acts_665 : decode cL_acts 665 = .ok (.iastore, 1) := by decide +kernel
theorem dL_acts_666 : decode cL_acts 666 = .ok (.aload_n 2, 1) := by decide +kernel
theorem dL_acts_667 : decode cL_acts 667 = .ok (.iload 17, 2) := by decide +kernel
theorem dL_acts_669 : decode cL_acts 669 = .ok (.iconst 1, 1) := by decide +kernel
theorem dL_acts_670 : decode cL_acts 670 = .ok (.iadd, 1) := by decide +kernel
theorem dL_acts_671 : decode cL_acts 671 = .ok (.iconst 1, 1) := by decide +kernel
theorem dL_acts_672 : decode cL_acts 672 = .ok (.iload 6, 2) := by decide +kernel
theorem dL_acts_674 : decode cL_acts 674 = .ok (.bipush 7, 2) := by decide +kernel
theorem dL_acts_676 : decode cL_acts 676 = .ok (.idiv, 1) := by decide +kernel
theorem dL_acts_677 : decode cL_acts 677 = .ok (.iconst 4, 1) := by decide +kernel
theorem dL_acts_678 : decode cL_acts 678 = .ok (.irem, 1) := by decide +kernel
theorem dL_acts_679 : decode cL_acts 679 = .ok (.iadd, 1) := by decide +kernel
theorem dL_acts_680 : decode cL_acts 680 = .ok (.iastore, 1) := by decide +kernel
theorem dL_acts_681 : decode cL_acts 681 = .ok (.aload_n 2, 1) := by decide +kernel
theorem dL_acts_682 : decode cL_acts 682 = .ok (.iload 17, 2) := by decide +kernel
theorem dL_acts_684 : decode cL_acts 684 = .ok (.iconst 2, 1) := by decide +kernel
theorem dL_acts_685 : decode cL_acts 685 = .ok (.iadd, 1) := by decide +kernel
theorem dL_acts_686 : decode cL_acts 686 = .ok (.iload 6, 2) := by decide +kernel
theorem dL_acts_688 : decode cL_acts 688 = .ok (.bipush 28, 2) := by decide +kernel
theorem dL_acts_690 : decode cL_acts 690 = .ok (.idiv, 1) := by decide +kernel
theorem dL_acts_691 : decode cL_acts 691 = .ok (.iload 6, 2) := by decide +kernel
theorem dL_acts_693 : decode cL_acts 693 = .ok (.iconst 2, 1) := by decide +kernel
theorem dL_acts_694 : decode cL_acts 694 = .ok (.irem, 1) := by decide +kernel
theorem dL_acts_695 : decode cL_acts 695 = .ok (.ifCond .ne 8, 3) := by decide +kernel
theorem dL_acts_698 : decode cL_acts 698 = .ok (.bipush 21, 2) := by decide +kernel
theorem dL_acts_700 : decode cL_acts 700 = .ok (.goto 5, 3) := by decide +kernel
theorem dL_acts_703 : decode cL_acts 703 = .ok (.bipush 6, 2) := by decide +kernel
theorem dL_acts_705 : decode cL_acts 705 = .ok (.irem, 1) := by decide +kernel
theorem dL_acts_706 : decode cL_acts 706 = .ok (.iastore, 1) := by decide +kernel
theorem dL_acts_707 : decode cL_acts 707 = .ok (.aload_n 2, 1) := by decide +kernel
theorem dL_acts_708 : decode cL_acts 708 = .ok (.iload 17, 2) := by decide +kernel
theorem dL_acts_710 : decode cL_acts 710 = .ok (.iconst 3, 1) := by decide +kernel
theorem dL_acts_711 : decode cL_acts 711 = .ok (.iadd, 1) := by decide +kernel
theorem dL_acts_712 : decode cL_acts 712 = .ok (.iload 6, 2) := by decide +kernel
theorem dL_acts_714 : decode cL_acts 714 = .ok (.iconst 3, 1) := by decide +kernel
theorem dL_acts_715 : decode cL_acts 715 = .ok (.idiv, 1) := by decide +kernel
theorem dL_acts_716 : decode cL_acts 716 = .ok (.iconst 3, 1) := by decide +kernel
theorem dL_acts_717 : decode cL_acts 717 = .ok (.irem, 1) := by decide +kernel
theorem dL_acts_718 : decode cL_acts 718 = .ok (.ifCond .ne 7, 3) := by decide +kernel
theorem dL_acts_721 : decode cL_acts 721 = .ok (.iconst 1, 1) := by decide +kernel
theorem dL_acts_722 : decode cL_acts 722 = .ok (.goto 4, 3) := by decide +kernel
theorem dL_acts_725 : decode cL_acts 725 = .ok (.iconst 0, 1) := by decide +kernel
theorem dL_acts_726 : decode cL_acts 726 = .ok (.iastore, 1) := by decide +kernel
theorem dL_acts_727 : decode cL_acts 727 = .ok (.aload_n 2, 1) := by decide +kernel
theorem dL_acts_728 : decode cL_acts 728 = .ok (.iload 17, 2) := by decide +kernel
theorem dL_acts_730 : decode cL_acts 730 = .ok (.iconst 4, 1) := by decide +kernel
theorem dL_acts_731 : decode cL_acts 731 = .ok (.iadd, 1) := by decide +kernel
theorem dL_acts_732 : decode cL_acts 732 = .ok (.iconst 0, 1) := by decide +kernel
theorem dL_acts_733 : decode cL_acts 733 = .ok (.iastore, 1) := by decide +kernel
theorem dL_acts_734 : decode cL_acts 734 = .ok (.aload_n 2, 1) := by decide +kernel
theorem dL_acts_735 : decode cL_acts 735 = .ok (.iload 17, 2) := by decide +kernel
theorem dL_acts_737 : decode cL_acts 737 = .ok (.iconst 5, 1) := by decide +kernel
theorem dL_acts_738 : decode cL_acts 738 = .ok (.iadd, 1) := by decide +kernel
theorem dL_acts_739 : decode cL_acts 739 = .ok (.iconst (-1), 1) := by decide +kernel
theorem dL_acts_740 : decode cL_acts 740 = .ok (.iastore, 1) := by decide +kernel
theorem dL_acts_741 : decode cL_acts 741 = .ok (.aload_n 2, 1) := by decide +kernel
theorem dL_acts_742 : decode cL_acts 742 = .ok (.iload 17, 2) := by decide +kernel
theorem dL_acts_744 : decode cL_acts 744 = .ok (.bipush 6, 2) := by decide +kernel
theorem dL_acts_746 : decode cL_acts 746 = .ok (.iadd, 1) := by decide +kernel
theorem dL_acts_747 : decode cL_acts 747 = .ok (.iconst (-1), 1) := by decide +kernel
theorem dL_acts_748 : decode cL_acts 748 = .ok (.iastore, 1) := by decide +kernel
theorem dL_acts_749 : decode cL_acts 749 = .ok (.aload_n 2, 1) := by decide +kernel
theorem dL_acts_750 : decode cL_acts 750 = .ok (.iload 17, 2) := by decide +kernel
theorem dL_acts_752 : decode cL_acts 752 = .ok (.bipush 7, 2) := by decide +kernel
theorem dL_acts_754 : decode cL_acts 754 = .ok (.iadd, 1) := by decide +kernel
theorem dL_acts_755 : decode cL_acts 755 = .ok (.iconst (-1), 1) := by decide +kernel
theorem dL_acts_756 : decode cL_acts 756 = .ok (.iastore, 1) := by decide +kernel
theorem dL_acts_757 : decode cL_acts 757 = .ok (.aload_n 1, 1) := by decide +kernel
theorem dL_acts_758 : decode cL_acts 758 = .ok (.bipush 7, 2) := by decide +kernel
theorem dL_acts_760 : decode cL_acts 760 = .ok (.dup2, 1) := by decide +kernel
theorem dL_acts_761 : decode cL_acts 761 = .ok (.iaload, 1) := by decide +kernel
theorem dL_acts_762 : decode cL_acts 762 = .ok (.iconst 1, 1) := by decide +kernel
theorem dL_acts_763 : decode cL_acts 763 = .ok (.iadd, 1) := by decide +kernel
theorem dL_acts_764 : decode cL_acts 764 = .ok (.iastore, 1) := by decide +kernel
theorem dL_acts_765 : decode cL_acts 765 = .ok (.aload_n 0, 1) := by decide +kernel
theorem dL_acts_766 : decode cL_acts 766 = .ok (.aload_n 2, 1) := by decide +kernel
theorem dL_acts_767 : decode cL_acts 767 = .ok (.iload 17, 2) := by decide +kernel
theorem dL_acts_769 : decode cL_acts 769 = .ok (.iaload, 1) := by decide +kernel
theorem dL_acts_770 : decode cL_acts 770 = .ok (.aload_n 2, 1) := by decide +kernel
theorem dL_acts_771 : decode cL_acts 771 = .ok (.iload 17, 2) := by decide +kernel
theorem dL_acts_773 : decode cL_acts 773 = .ok (.iconst 1, 1) := by decide +kernel
theorem dL_acts_774 : decode cL_acts 774 = .ok (.iadd, 1) := by decide +kernel
theorem dL_acts_775 : decode cL_acts 775 = .ok (.iaload, 1) := by decide +kernel
theorem dL_acts_776 : decode cL_acts 776 = .ok (.aload_n 2, 1) := by decide +kernel
theorem dL_acts_777 : decode cL_acts 777 = .ok (.iload 17, 2) := by decide +kernel
theorem dL_acts_779 : decode cL_acts 779 = .ok (.iconst 2, 1) := by decide +kernel
theorem dL_acts_780 : decode cL_acts 780 = .ok (.iadd, 1) := by decide +kernel
theorem dL_acts_781 : decode cL_acts 781 = .ok (.iaload, 1) := by decide +kernel
theorem dL_acts_782 : decode cL_acts 782 = .ok (.iload 6, 2) := by decide +kernel
theorem dL_acts_784 : decode cL_acts 784 = .ok (.iconst 3, 1) := by decide +kernel
theorem dL_acts_785 : decode cL_acts 785 = .ok (.idiv, 1) := by decide +kernel
theorem dL_acts_786 : decode cL_acts 786 = .ok (.iconst 3, 1) := by decide +kernel
theorem dL_acts_787 : decode cL_acts 787 = .ok (.irem, 1) := by decide +kernel
theorem dL_acts_788 : decode cL_acts 788 = .ok (.ifCond .ne 7, 3) := by decide +kernel
theorem dL_acts_791 : decode cL_acts 791 = .ok (.iconst 1, 1) := by decide +kernel
theorem dL_acts_792 : decode cL_acts 792 = .ok (.goto 4, 3) := by decide +kernel
theorem dL_acts_795 : decode cL_acts 795 = .ok (.iconst 0, 1) := by decide +kernel
theorem dL_acts_796 : decode cL_acts 796 = .ok (.invokestatic 52, 3) := by decide +kernel
theorem dL_acts_799 : decode cL_acts 799 = .ok (.iload 7, 2) := by decide +kernel
theorem dL_acts_801 : decode cL_acts 801 = .ok (.if_icmp .ne 7, 3) := by decide +kernel
theorem dL_acts_804 : decode cL_acts 804 = .ok (.iconst 1, 1) := by decide +kernel
theorem dL_acts_805 : decode cL_acts 805 = .ok (.goto 4, 3) := by decide +kernel
theorem dL_acts_808 : decode cL_acts 808 = .ok (.iconst 0, 1) := by decide +kernel
theorem dL_acts_809 : decode cL_acts 809 = .ok (.ireturn, 1) := by decide +kernel
theorem dL_begins_0 : decode cL_begins 0 = .ok (.aload_n 0, 1) := by decide +kernel
theorem dL_begins_1 : decode cL_begins 1 = .ok (.iconst 0, 1) := by decide +kernel
theorem dL_begins_2 : decode cL_begins 2 = .ok (.iconst 3, 1) := by decide +kernel
theorem dL_begins_3 : decode cL_begins 3 = .ok (.iastore, 1) := by decide +kernel
theorem dL_begins_4 : decode cL_begins 4 = .ok (.iconst 1, 1) := by decide +kernel
theorem dL_begins_5 : decode cL_begins 5 = .ok (.istore_n 1, 1) := by decide +kernel
theorem dL_begins_6 : decode cL_begins 6 = .ok (.iload_n 1, 1) := by decide +kernel
theorem dL_begins_7 : decode cL_begins 7 = .ok (.bipush 7, 2) := by decide +kernel
theorem dL_begins_9 : decode cL_begins 9 = .ok (.if_icmp .ge 13, 3) := by decide +kernel
theorem dL_begins_12 : decode cL_begins 12 = .ok (.aload_n 0, 1) := by decide +kernel
theorem dL_begins_13 : decode cL_begins 13 = .ok (.iload_n 1, 1) := by decide +kernel
theorem dL_begins_14 : decode cL_begins 14 = .ok (.iconst 4, 1) := by decide +kernel
theorem dL_begins_15 : decode cL_begins 15 = .ok (.iastore, 1) := by decide +kernel
theorem dL_begins_16 : decode cL_begins 16 = .ok (.iinc 1 1, 3) := by decide +kernel
theorem dL_begins_19 : decode cL_begins 19 = .ok (.goto (-13), 3) := by decide +kernel
theorem dL_begins_22 : decode cL_begins 22 = .ok (.return_, 1) := by decide +kernel
theorem dL_foresees_0 : decode cL_foresees 0 = .ok (.bipush 13, 2) := by decide +kernel
theorem dL_foresees_2 : decode cL_foresees 2 = .ok (.newarray .int, 2) := by decide +kernel
theorem dL_foresees_4 : decode cL_foresees 4 = .ok (.astore 4, 2) := by decide +kernel
theorem dL_foresees_6 : decode cL_foresees 6 = .ok (.bipush 64, 2) := by decide +kernel
theorem dL_foresees_8 : decode cL_foresees 8 = .ok (.newarray .int, 2) := by decide +kernel
theorem dL_foresees_10 : decode cL_foresees 10 = .ok (.astore 5, 2) := by decide +kernel
theorem dL_foresees_12 : decode cL_foresees 12 = .ok (.bipush 32, 2) := by decide +kernel
theorem dL_foresees_14 : decode cL_foresees 14 = .ok (.newarray .int, 2) := by decide +kernel
theorem dL_foresees_16 : decode cL_foresees 16 = .ok (.astore 6, 2) := by decide +kernel
theorem dL_foresees_18 : decode cL_foresees 18 = .ok (.bipush 14, 2) := by decide +kernel
theorem dL_foresees_20 : decode cL_foresees 20 = .ok (.newarray .int, 2) := by decide +kernel
theorem dL_foresees_22 : decode cL_foresees 22 = .ok (.astore 7, 2) := by decide +kernel
theorem dL_foresees_24 : decode cL_foresees 24 = .ok (.iconst 0, 1) := by decide +kernel
theorem dL_foresees_25 : decode cL_foresees 25 = .ok (.istore 8, 2) := by decide +kernel
theorem dL_foresees_27 : decode cL_foresees 27 = .ok (.iload 8, 2) := by decide +kernel
theorem dL_foresees_29 : decode cL_foresees 29 = .ok (.bipush 64, 2) := by decide +kernel
theorem dL_foresees_31 : decode cL_foresees 31 = .ok (.if_icmp .ge 48, 3) := by decide +kernel
theorem dL_foresees_34 : decode cL_foresees 34 = .ok (.aload 5, 2) := by decide +kernel
theorem dL_foresees_36 : decode cL_foresees 36 = .ok (.iload 8, 2) := by decide +kernel
theorem dL_foresees_38 : decode cL_foresees 38 = .ok (.aload_n 1, 1) := by decide +kernel
theorem dL_foresees_39 : decode cL_foresees 39 = .ok (.iload 8, 2) := by decide +kernel
theorem dL_foresees_41 : decode cL_foresees 41 = .ok (.iaload, 1) := by decide +kernel
theorem dL_foresees_42 : decode cL_foresees 42 = .ok (.iastore, 1) := by decide +kernel
theorem dL_foresees_43 : decode cL_foresees 43 = .ok (.aload 6, 2) := by decide +kernel
theorem dL_foresees_45 : decode cL_foresees 45 = .ok (.iload 8, 2) := by decide +kernel
theorem dL_foresees_47 : decode cL_foresees 47 = .ok (.bipush 32, 2) := by decide +kernel
theorem dL_foresees_49 : decode cL_foresees 49 = .ok (.irem, 1) := by decide +kernel
theorem dL_foresees_50 : decode cL_foresees 50 = .ok (.aload_n 2, 1) := by decide +kernel
theorem dL_foresees_51 : decode cL_foresees 51 = .ok (.iload 8, 2) := by decide +kernel
theorem dL_foresees_53 : decode cL_foresees 53 = .ok (.bipush 32, 2) := by decide +kernel
theorem dL_foresees_55 : decode cL_foresees 55 = .ok (.irem, 1) := by decide +kernel
theorem dL_foresees_56 : decode cL_foresees 56 = .ok (.iaload, 1) := by decide +kernel
theorem dL_foresees_57 : decode cL_foresees 57 = .ok (.iastore, 1) := by decide +kernel
theorem dL_foresees_58 : decode cL_foresees 58 = .ok (.aload 4, 2) := by decide +kernel
theorem dL_foresees_60 : decode cL_foresees 60 = .ok (.iload 8, 2) := by decide +kernel
theorem dL_foresees_62 : decode cL_foresees 62 = .ok (.bipush 13, 2) := by decide +kernel
theorem dL_foresees_64 : decode cL_foresees 64 = .ok (.irem, 1) := by decide +kernel
theorem dL_foresees_65 : decode cL_foresees 65 = .ok (.aload_n 0, 1) := by decide +kernel
theorem dL_foresees_66 : decode cL_foresees 66 = .ok (.iload 8, 2) := by decide +kernel
theorem dL_foresees_68 : decode cL_foresees 68 = .ok (.bipush 13, 2) := by decide +kernel
theorem dL_foresees_70 : decode cL_foresees 70 = .ok (.irem, 1) := by decide +kernel
theorem dL_foresees_71 : decode cL_foresees 71 = .ok (.iaload, 1) := by decide +kernel
theorem dL_foresees_72 : decode cL_foresees 72 = .ok (.iastore, 1) := by decide +kernel
theorem dL_foresees_73 : decode cL_foresees 73 = .ok (.iinc 8 1, 3) := by decide +kernel
theorem dL_foresees_76 : decode cL_foresees 76 = .ok (.goto (-49), 3) := by decide +kernel
theorem dL_foresees_79 : decode cL_foresees 79 = .ok (.iconst 0, 1) := by decide +kernel
theorem dL_foresees_80 : decode cL_foresees 80 = .ok (.istore 8, 2) := by decide +kernel
theorem dL_foresees_82 : decode cL_foresees 82 = .ok (.iload 8, 2) := by decide +kernel
theorem dL_foresees_84 : decode cL_foresees 84 = .ok (.sipush 1000, 3) := by decide +kernel
theorem dL_foresees_87 : decode cL_foresees 87 = .ok (.if_icmp .ge 33, 3) := by decide +kernel
theorem dL_foresees_90 : decode cL_foresees 90 = .ok (.aload 4, 2) := by decide +kernel
theorem dL_foresees_92 : decode cL_foresees 92 = .ok (.bipush 12, 2) := by decide +kernel
theorem dL_foresees_94 : decode cL_foresees 94 = .ok (.iaload, 1) := by decide +kernel
theorem dL_foresees_95 : decode cL_foresees 95 = .ok (.aload 4, 2) := by decide +kernel
theorem dL_foresees_97 : decode cL_foresees 97 = .ok (.bipush 7, 2) := by decide +kernel
theorem dL_foresees_99 : decode cL_foresees 99 = .ok (.iaload, 1) := by decide +kernel
theorem dL_foresees_100 : decode cL_foresees 100 = .ok (.if_icmp .ge 20, 3) := by decide +kernel
theorem dL_foresees_103 : decode cL_foresees 103 = .ok (.aload 4, 2) := by decide +kernel
theorem dL_foresees_105 : decode cL_foresees 105 = .ok (.aload 5, 2) := by decide +kernel
theorem dL_foresees_107 : decode cL_foresees 107 = .ok (.aload 6, 2) := by decide +kernel
theorem dL_foresees_109 : decode cL_foresees 109 = .ok (.aload 7, 2) := by decide +kernel
theorem dL_foresees_111 : decode cL_foresees 111 = .ok (.invokestatic 48, 3) := by decide +kernel
theorem dL_foresees_114 : decode cL_foresees 114 = .ok (.iinc 8 1, 3) := by decide +kernel
theorem dL_foresees_117 : decode cL_foresees 117 = .ok (.goto (-35), 3) := by decide +kernel
theorem dL_foresees_120 : decode cL_foresees 120 = .ok (.iconst 0, 1) := by decide +kernel
theorem dL_foresees_121 : decode cL_foresees 121 = .ok (.istore 9, 2) := by decide +kernel
theorem dL_foresees_123 : decode cL_foresees 123 = .ok (.iload 9, 2) := by decide +kernel
theorem dL_foresees_125 : decode cL_foresees 125 = .ok (.aload_n 0, 1) := by decide +kernel
theorem dL_foresees_126 : decode cL_foresees 126 = .ok (.bipush 7, 2) := by decide +kernel
theorem dL_foresees_128 : decode cL_foresees 128 = .ok (.iaload, 1) := by decide +kernel
theorem dL_foresees_129 : decode cL_foresees 129 = .ok (.if_icmp .ge 24, 3) := by decide +kernel
theorem dL_foresees_132 : decode cL_foresees 132 = .ok (.aload_n 3, 1) := by decide +kernel
theorem dL_foresees_133 : decode cL_foresees 133 = .ok (.iload 9, 2) := by decide +kernel
theorem dL_foresees_135 : decode cL_foresees 135 = .ok (.aload 5, 2) := by decide +kernel
theorem dL_foresees_137 : decode cL_foresees 137 = .ok (.bipush 8, 2) := by decide +kernel
theorem dL_foresees_139 : decode cL_foresees 139 = .ok (.iload 9, 2) := by decide +kernel
theorem dL_foresees_141 : decode cL_foresees 141 = .ok (.imul, 1) := by decide +kernel
theorem dL_foresees_142 : decode cL_foresees 142 = .ok (.bipush 6, 2) := by decide +kernel
theorem dL_foresees_144 : decode cL_foresees 144 = .ok (.iadd, 1) := by decide +kernel
theorem dL_foresees_145 : decode cL_foresees 145 = .ok (.iaload, 1) := by decide +kernel
theorem dL_foresees_146 : decode cL_foresees 146 = .ok (.iastore, 1) := by decide +kernel
theorem dL_foresees_147 : decode cL_foresees 147 = .ok (.iinc 9 1, 3) := by decide +kernel
theorem dL_foresees_150 : decode cL_foresees 150 = .ok (.goto (-27), 3) := by decide +kernel
theorem dL_foresees_153 : decode cL_foresees 153 = .ok (.aload 4, 2) := by decide +kernel
theorem dL_foresees_155 : decode cL_foresees 155 = .ok (.bipush 12, 2) := by decide +kernel
theorem dL_foresees_157 : decode cL_foresees 157 = .ok (.iaload, 1) := by decide +kernel
theorem dL_foresees_158 : decode cL_foresees 158 = .ok (.aload 4, 2) := by decide +kernel
theorem dL_foresees_160 : decode cL_foresees 160 = .ok (.bipush 7, 2) := by decide +kernel
theorem dL_foresees_162 : decode cL_foresees 162 = .ok (.iaload, 1) := by decide +kernel
theorem dL_foresees_163 : decode cL_foresees 163 = .ok (.if_icmp .ge 7, 3) := by decide +kernel
theorem dL_foresees_166 : decode cL_foresees 166 = .ok (.iconst (-1), 1) := by decide +kernel
theorem dL_foresees_167 : decode cL_foresees 167 = .ok (.goto 5, 3) := by decide +kernel
theorem dL_foresees_170 : decode cL_foresees 170 = .ok (.iload 8, 2) := by decide +kernel
theorem dL_foresees_172 : decode cL_foresees 172 = .ok (.ireturn, 1) := by decide +kernel
theorem dL_addsChair_0 : decode cL_addsChair 0 = .ok (.aload_n 0, 1) := by decide +kernel
theorem dL_addsChair_1 : decode cL_addsChair 1 = .ok (.iload_n 1, 1) := by decide +kernel
theorem dL_addsChair_2 : decode cL_addsChair 2 = .ok (.iload_n 2, 1) := by decide +kernel
theorem dL_addsChair_3 : decode cL_addsChair 3 = .ok (.iload_n 3, 1) := by decide +kernel
theorem dL_addsChair_4 : decode cL_addsChair 4 = .ok (.iload 4, 2) := by decide +kernel
theorem dL_addsChair_6 : decode cL_addsChair 6 = .ok (.invokevirtual 56, 3) := by decide +kernel
theorem dL_addsChair_9 : decode cL_addsChair 9 = .ok (.ireturn, 1) := by decide +kernel
theorem dL_addsChair_10 : decode cL_addsChair 10 = .ok (.astore 5, 2) := by decide +kernel
theorem dL_addsChair_12 : decode cL_addsChair 12 = .ok (.ldc 35, 2) := by decide +kernel
theorem dL_addsChair_14 : decode cL_addsChair 14 = .ok (.ireturn, 1) := by decide +kernel
theorem dL_addsChair_15 : decode cL_addsChair 15 = .ok (.astore 5, 2) := by decide +kernel
theorem dL_addsChair_17 : decode cL_addsChair 17 = .ok (.ldc 44, 2) := by decide +kernel
theorem dL_addsChair_19 : decode cL_addsChair 19 = .ok (.ireturn, 1) := by decide +kernel
theorem dL_addsChair_20 : decode cL_addsChair 20 = .ok (.astore 5, 2) := by decide +kernel
theorem dL_addsChair_22 : decode cL_addsChair 22 = .ok (.ldc 36, 2) := by decide +kernel
theorem dL_addsChair_24 : decode cL_addsChair 24 = .ok (.ireturn, 1) := by decide +kernel
theorem dL_addsTeam_0 : decode cL_addsTeam 0 = .ok (.aload_n 0, 1) := by decide +kernel
theorem dL_addsTeam_1 : decode cL_addsTeam 1 = .ok (.iload_n 1, 1) := by decide +kernel
theorem dL_addsTeam_2 : decode cL_addsTeam 2 = .ok (.iload_n 2, 1) := by decide +kernel
theorem dL_addsTeam_3 : decode cL_addsTeam 3 = .ok (.invokevirtual 68, 3) := by decide +kernel
theorem dL_addsTeam_6 : decode cL_addsTeam 6 = .ok (.ireturn, 1) := by decide +kernel
theorem dL_addsTeam_7 : decode cL_addsTeam 7 = .ok (.astore_n 3, 1) := by decide +kernel
theorem dL_addsTeam_8 : decode cL_addsTeam 8 = .ok (.ldc 35, 2) := by decide +kernel
theorem dL_addsTeam_10 : decode cL_addsTeam 10 = .ok (.ireturn, 1) := by decide +kernel
theorem dL_addsTeam_11 : decode cL_addsTeam 11 = .ok (.astore_n 3, 1) := by decide +kernel
theorem dL_addsTeam_12 : decode cL_addsTeam 12 = .ok (.ldc 44, 2) := by decide +kernel
theorem dL_addsTeam_14 : decode cL_addsTeam 14 = .ok (.ireturn, 1) := by decide +kernel
theorem dL_addsTeam_15 : decode cL_addsTeam 15 = .ok (.astore_n 3, 1) := by decide +kernel
theorem dL_addsTeam_16 : decode cL_addsTeam 16 = .ok (.ldc 36, 2) := by decide +kernel
theorem dL_addsTeam_18 : decode cL_addsTeam 18 = .ok (.ireturn, 1) := by decide +kernel
theorem dL_ways_0 : decode cL_ways 0 = .ok (.aload_n 0, 1) := by decide +kernel
theorem dL_ways_1 : decode cL_ways 1 = .ok (.iload_n 1, 1) := by decide +kernel
theorem dL_ways_2 : decode cL_ways 2 = .ok (.iload_n 2, 1) := by decide +kernel
theorem dL_ways_3 : decode cL_ways 3 = .ok (.invokevirtual 71, 3) := by decide +kernel
theorem dL_ways_6 : decode cL_ways 6 = .ok (.ireturn, 1) := by decide +kernel
theorem dL_ways_7 : decode cL_ways 7 = .ok (.astore_n 3, 1) := by decide +kernel
theorem dL_ways_8 : decode cL_ways 8 = .ok (.ldc 35, 2) := by decide +kernel
theorem dL_ways_10 : decode cL_ways 10 = .ok (.ireturn, 1) := by decide +kernel
theorem dL_ways_11 : decode cL_ways 11 = .ok (.astore_n 3, 1) := by decide +kernel
theorem dL_ways_12 : decode cL_ways 12 = .ok (.ldc 44, 2) := by decide +kernel
theorem dL_ways_14 : decode cL_ways 14 = .ok (.ireturn, 1) := by decide +kernel
theorem dL_colds_0 : decode cL_colds 0 = .ok (.aload_n 0, 1) := by decide +kernel
theorem dL_colds_1 : decode cL_colds 1 = .ok (.iload_n 1, 1) := by decide +kernel
theorem dL_colds_2 : decode cL_colds 2 = .ok (.iload_n 2, 1) := by decide +kernel
theorem dL_colds_3 : decode cL_colds 3 = .ok (.invokevirtual 74, 3) := by decide +kernel
theorem dL_colds_6 : decode cL_colds 6 = .ok (.ireturn, 1) := by decide +kernel
theorem dL_colds_7 : decode cL_colds 7 = .ok (.astore_n 3, 1) := by decide +kernel
theorem dL_colds_8 : decode cL_colds 8 = .ok (.ldc 35, 2) := by decide +kernel
theorem dL_colds_10 : decode cL_colds 10 = .ok (.ireturn, 1) := by decide +kernel
theorem dL_colds_11 : decode cL_colds 11 = .ok (.astore_n 3, 1) := by decide +kernel
theorem dL_colds_12 : decode cL_colds 12 = .ok (.ldc 44, 2) := by decide +kernel
theorem dL_colds_14 : decode cL_colds 14 = .ok (.ireturn, 1) := by decide +kernel
theorem dL_colds_15 : decode cL_colds 15 = .ok (.astore_n 3, 1) := by decide +kernel
theorem dL_colds_16 : decode cL_colds 16 = .ok (.ldc 36, 2) := by decide +kernel
theorem dL_colds_18 : decode cL_colds 18 = .ok (.ireturn, 1) := by decide +kernel
theorem dL_calls_0 : decode cL_calls 0 = .ok (.aload_n 0, 1) := by decide +kernel
theorem dL_calls_1 : decode cL_calls 1 = .ok (.iload_n 1, 1) := by decide +kernel
theorem dL_calls_2 : decode cL_calls 2 = .ok (.invokevirtual 77, 3) := by decide +kernel
theorem dL_calls_5 : decode cL_calls 5 = .ok (.ireturn, 1) := by decide +kernel
theorem dL_calls_6 : decode cL_calls 6 = .ok (.astore_n 2, 1) := by decide +kernel
theorem dL_calls_7 : decode cL_calls 7 = .ok (.ldc 35, 2) := by decide +kernel
theorem dL_calls_9 : decode cL_calls 9 = .ok (.ireturn, 1) := by decide +kernel
theorem dL_passes_0 : decode cL_passes 0 = .ok (.aload_n 0, 1) := by decide +kernel
theorem dL_passes_1 : decode cL_passes 1 = .ok (.iload_n 1, 1) := by decide +kernel
theorem dL_passes_2 : decode cL_passes 2 = .ok (.invokevirtual 81, 3) := by decide +kernel
theorem dL_passes_5 : decode cL_passes 5 = .ok (.ireturn, 1) := by decide +kernel
theorem dL_passes_6 : decode cL_passes 6 = .ok (.astore_n 2, 1) := by decide +kernel
theorem dL_passes_7 : decode cL_passes 7 = .ok (.ldc 44, 2) := by decide +kernel
theorem dL_passes_9 : decode cL_passes 9 = .ok (.ireturn, 1) := by decide +kernel
theorem dL_passes_10 : decode cL_passes 10 = .ok (.astore_n 2, 1) := by decide +kernel
theorem dL_passes_11 : decode cL_passes 11 = .ok (.ldc 36, 2) := by decide +kernel
theorem dL_passes_13 : decode cL_passes 13 = .ok (.ireturn, 1) := by decide +kernel
theorem dL_chairOf_0 : decode cL_chairOf 0 = .ok (.aload_n 0, 1) := by decide +kernel
theorem dL_chairOf_1 : decode cL_chairOf 1 = .ok (.iload_n 1, 1) := by decide +kernel
theorem dL_chairOf_2 : decode cL_chairOf 2 = .ok (.iload_n 2, 1) := by decide +kernel
theorem dL_chairOf_3 : decode cL_chairOf 3 = .ok (.invokevirtual 84, 3) := by decide +kernel
theorem dL_chairOf_6 : decode cL_chairOf 6 = .ok (.ireturn, 1) := by decide +kernel
theorem dL_chairOf_7 : decode cL_chairOf 7 = .ok (.astore_n 3, 1) := by decide +kernel
theorem dL_chairOf_8 : decode cL_chairOf 8 = .ok (.ldc 35, 2) := by decide +kernel
theorem dL_chairOf_10 : decode cL_chairOf 10 = .ok (.ireturn, 1) := by decide +kernel
theorem dL_chairOf_11 : decode cL_chairOf 11 = .ok (.astore_n 3, 1) := by decide +kernel
theorem dL_chairOf_12 : decode cL_chairOf 12 = .ok (.ldc 44, 2) := by decide +kernel
theorem dL_chairOf_14 : decode cL_chairOf 14 = .ok (.ireturn, 1) := by decide +kernel
theorem dL_teamOf_0 : decode cL_teamOf 0 = .ok (.aload_n 0, 1) := by decide +kernel
theorem dL_teamOf_1 : decode cL_teamOf 1 = .ok (.iload_n 1, 1) := by decide +kernel
theorem dL_teamOf_2 : decode cL_teamOf 2 = .ok (.iload_n 2, 1) := by decide +kernel
theorem dL_teamOf_3 : decode cL_teamOf 3 = .ok (.invokevirtual 87, 3) := by decide +kernel
theorem dL_teamOf_6 : decode cL_teamOf 6 = .ok (.ireturn, 1) := by decide +kernel
theorem dL_teamOf_7 : decode cL_teamOf 7 = .ok (.astore_n 3, 1) := by decide +kernel
theorem dL_teamOf_8 : decode cL_teamOf 8 = .ok (.ldc 35, 2) := by decide +kernel
theorem dL_teamOf_10 : decode cL_teamOf 10 = .ok (.ireturn, 1) := by decide +kernel
theorem dL_teamOf_11 : decode cL_teamOf 11 = .ok (.astore_n 3, 1) := by decide +kernel
theorem dL_teamOf_12 : decode cL_teamOf 12 = .ok (.ldc 44, 2) := by decide +kernel
theorem dL_teamOf_14 : decode cL_teamOf 14 = .ok (.ireturn, 1) := by decide +kernel
theorem dL_valueOf_0 : decode cL_valueOf 0 = .ok (.aload_n 0, 1) := by decide +kernel
theorem dL_valueOf_1 : decode cL_valueOf 1 = .ok (.iload_n 1, 1) := by decide +kernel
theorem dL_valueOf_2 : decode cL_valueOf 2 = .ok (.invokevirtual 90, 3) := by decide +kernel
theorem dL_valueOf_5 : decode cL_valueOf 5 = .ok (.ireturn, 1) := by decide +kernel
theorem dL_valueOf_6 : decode cL_valueOf 6 = .ok (.astore_n 2, 1) := by decide +kernel
theorem dL_valueOf_7 : decode cL_valueOf 7 = .ok (.ldc 44, 2) := by decide +kernel
theorem dL_valueOf_9 : decode cL_valueOf 9 = .ok (.ireturn, 1) := by decide +kernel
theorem dL_wayOf_0 : decode cL_wayOf 0 = .ok (.aload_n 0, 1) := by decide +kernel
theorem dL_wayOf_1 : decode cL_wayOf 1 = .ok (.iload_n 1, 1) := by decide +kernel
theorem dL_wayOf_2 : decode cL_wayOf 2 = .ok (.iload_n 2, 1) := by decide +kernel
theorem dL_wayOf_3 : decode cL_wayOf 3 = .ok (.invokevirtual 93, 3) := by decide +kernel
theorem dL_wayOf_6 : decode cL_wayOf 6 = .ok (.ireturn, 1) := by decide +kernel
theorem dL_wayOf_7 : decode cL_wayOf 7 = .ok (.astore_n 3, 1) := by decide +kernel
theorem dL_wayOf_8 : decode cL_wayOf 8 = .ok (.ldc 35, 2) := by decide +kernel
theorem dL_wayOf_10 : decode cL_wayOf 10 = .ok (.ireturn, 1) := by decide +kernel
theorem dL_workOf_0 : decode cL_workOf 0 = .ok (.aload_n 0, 1) := by decide +kernel
theorem dL_workOf_1 : decode cL_workOf 1 = .ok (.iload_n 1, 1) := by decide +kernel
theorem dL_workOf_2 : decode cL_workOf 2 = .ok (.iload_n 2, 1) := by decide +kernel
theorem dL_workOf_3 : decode cL_workOf 3 = .ok (.invokevirtual 96, 3) := by decide +kernel
theorem dL_workOf_6 : decode cL_workOf 6 = .ok (.ireturn, 1) := by decide +kernel
theorem dL_workOf_7 : decode cL_workOf 7 = .ok (.astore_n 3, 1) := by decide +kernel
theorem dL_workOf_8 : decode cL_workOf 8 = .ok (.ldc 35, 2) := by decide +kernel
theorem dL_workOf_10 : decode cL_workOf 10 = .ok (.ireturn, 1) := by decide +kernel
theorem dL_journalOf_0 : decode cL_journalOf 0 = .ok (.aload_n 0, 1) := by decide +kernel
theorem dL_journalOf_1 : decode cL_journalOf 1 = .ok (.iload_n 1, 1) := by decide +kernel
theorem dL_journalOf_2 : decode cL_journalOf 2 = .ok (.invokevirtual 98, 3) := by decide +kernel
theorem dL_journalOf_5 : decode cL_journalOf 5 = .ok (.ireturn, 1) := by decide +kernel
theorem dL_journalOf_6 : decode cL_journalOf 6 = .ok (.astore_n 2, 1) := by decide +kernel
theorem dL_journalOf_7 : decode cL_journalOf 7 = .ok (.ldc 35, 2) := by decide +kernel
theorem dL_journalOf_9 : decode cL_journalOf 9 = .ok (.ireturn, 1) := by decide +kernel
theorem dL_chosenAt_0 : decode cL_chosenAt 0 = .ok (.aload_n 0, 1) := by decide +kernel
theorem dL_chosenAt_1 : decode cL_chosenAt 1 = .ok (.iload_n 1, 1) := by decide +kernel
theorem dL_chosenAt_2 : decode cL_chosenAt 2 = .ok (.invokevirtual 101, 3) := by decide +kernel
theorem dL_chosenAt_5 : decode cL_chosenAt 5 = .ok (.ireturn, 1) := by decide +kernel
theorem dL_chosenAt_6 : decode cL_chosenAt 6 = .ok (.astore_n 2, 1) := by decide +kernel
theorem dL_chosenAt_7 : decode cL_chosenAt 7 = .ok (.ldc 35, 2) := by decide +kernel
theorem dL_chosenAt_9 : decode cL_chosenAt 9 = .ok (.ireturn, 1) := by decide +kernel
theorem dL_tells_0 : decode cL_tells 0 = .ok (.bipush 8, 2) := by decide +kernel
theorem dL_tells_2 : decode cL_tells 2 = .ok (.newarray .int, 2) := by decide +kernel
theorem dL_tells_4 : decode cL_tells 4 = .ok (.astore 4, 2) := by decide +kernel
theorem dL_tells_6 : decode cL_tells 6 = .ok (.aload_n 1, 1) := by decide +kernel
theorem dL_tells_7 : decode cL_tells 7 = .ok (.aload_n 2, 1) := by decide +kernel
theorem dL_tells_8 : decode cL_tells 8 = .ok (.aload_n 3, 1) := by decide +kernel
theorem dL_tells_9 : decode cL_tells 9 = .ok (.aload 4, 2) := by decide +kernel
theorem dL_tells_11 : decode cL_tells 11 = .ok (.invokestatic 104, 3) := by decide +kernel
theorem dL_tells_14 : decode cL_tells 14 = .ok (.istore 5, 2) := by decide +kernel
theorem dL_tells_16 : decode cL_tells 16 = .ok (.iconst 0, 1) := by decide +kernel
theorem dL_tells_17 : decode cL_tells 17 = .ok (.istore 6, 2) := by decide +kernel
theorem dL_tells_19 : decode cL_tells 19 = .ok (.iconst 0, 1) := by decide +kernel
theorem dL_tells_20 : decode cL_tells 20 = .ok (.istore 7, 2) := by decide +kernel
theorem dL_tells_22 : decode cL_tells 22 = .ok (.iload 7, 2) := by decide +kernel
theorem dL_tells_24 : decode cL_tells 24 = .ok (.aload_n 1, 1) := by decide +kernel
theorem dL_tells_25 : decode cL_tells 25 = .ok (.bipush 7, 2) := by decide +kernel
theorem dL_tells_27 : decode cL_tells 27 = .ok (.iaload, 1) := by decide +kernel
theorem dL_tells_28 : decode cL_tells 28 = .ok (.if_icmp .ge 55, 3) := by decide +kernel
theorem dL_tells_31 : decode cL_tells 31 = .ok (.aload_n 2, 1) := by decide +kernel
theorem dL_tells_32 : decode cL_tells 32 = .ok (.bipush 8, 2) := by decide +kernel
theorem dL_tells_34 : decode cL_tells 34 = .ok (.iload 7, 2) := by decide +kernel
theorem dL_tells_36 : decode cL_tells 36 = .ok (.imul, 1) := by decide +kernel
theorem dL_tells_37 : decode cL_tells 37 = .ok (.iconst 4, 1) := by decide +kernel
theorem dL_tells_38 : decode cL_tells 38 = .ok (.iadd, 1) := by decide +kernel
theorem dL_tells_39 : decode cL_tells 39 = .ok (.iaload, 1) := by decide +kernel
theorem dL_tells_40 : decode cL_tells 40 = .ok (.iconst 2, 1) := by decide +kernel
theorem dL_tells_41 : decode cL_tells 41 = .ok (.if_icmp .ge 36, 3) := by decide +kernel
theorem dL_tells_44 : decode cL_tells 44 = .ok (.aload_n 2, 1) := by decide +kernel
theorem dL_tells_45 : decode cL_tells 45 = .ok (.bipush 8, 2) := by decide +kernel
theorem dL_tells_47 : decode cL_tells 47 = .ok (.iload 7, 2) := by decide +kernel
theorem dL_tells_49 : decode cL_tells 49 = .ok (.imul, 1) := by decide +kernel
theorem dL_tells_50 : decode cL_tells 50 = .ok (.bipush 7, 2) := by decide +kernel
theorem dL_tells_52 : decode cL_tells 52 = .ok (.iadd, 1) := by decide +kernel
theorem dL_tells_53 : decode cL_tells 53 = .ok (.aload 4, 2) := by decide +kernel
theorem dL_tells_55 : decode cL_tells 55 = .ok (.iload 7, 2) := by decide +kernel
theorem dL_tells_57 : decode cL_tells 57 = .ok (.iaload, 1) := by decide +kernel
theorem dL_tells_58 : decode cL_tells 58 = .ok (.iastore, 1) := by decide +kernel
theorem dL_tells_59 : decode cL_tells 59 = .ok (.iload 6, 2) := by decide +kernel
theorem dL_tells_61 : decode cL_tells 61 = .ok (.aload 4, 2) := by decide +kernel
theorem dL_tells_63 : decode cL_tells 63 = .ok (.iload 7, 2) := by decide +kernel
theorem dL_tells_65 : decode cL_tells 65 = .ok (.iaload, 1) := by decide +kernel
theorem dL_tells_66 : decode cL_tells 66 = .ok (.ifCond .lt 7, 3) := by decide +kernel
theorem dL_tells_69 : decode cL_tells 69 = .ok (.iconst 1, 1) := by decide +kernel
theorem dL_tells_70 : decode cL_tells 70 = .ok (.goto 4, 3) := by decide +kernel
theorem dL_tells_73 : decode cL_tells 73 = .ok (.iconst 0, 1) := by decide +kernel
theorem dL_tells_74 : decode cL_tells 74 = .ok (.iadd, 1) := by decide +kernel
theorem dL_tells_75 : decode cL_tells 75 = .ok (.istore 6, 2) := by decide +kernel
theorem dL_tells_77 : decode cL_tells 77 = .ok (.iinc 7 1, 3) := by decide +kernel
theorem dL_tells_80 : decode cL_tells 80 = .ok (.goto (-58), 3) := by decide +kernel
theorem dL_tells_83 : decode cL_tells 83 = .ok (.aload_n 0, 1) := by decide +kernel
theorem dL_tells_84 : decode cL_tells 84 = .ok (.invokevirtual 108, 3) := by decide +kernel
theorem dL_tells_87 : decode cL_tells 87 = .ok (.iload 6, 2) := by decide +kernel
theorem dL_tells_89 : decode cL_tells 89 = .ok (.if_icmp .ne 16, 3) := by decide +kernel
theorem dL_tells_92 : decode cL_tells 92 = .ok (.aload_n 0, 1) := by decide +kernel
theorem dL_tells_93 : decode cL_tells 93 = .ok (.invokevirtual 112, 3) := by decide +kernel
theorem dL_tells_96 : decode cL_tells 96 = .ok (.iload 5, 2) := by decide +kernel
theorem dL_tells_98 : decode cL_tells 98 = .ok (.if_icmp .ne 7, 3) := by decide +kernel
theorem dL_tells_101 : decode cL_tells 101 = .ok (.iconst 1, 1) := by decide +kernel
theorem dL_tells_102 : decode cL_tells 102 = .ok (.goto 4, 3) := by decide +kernel
theorem dL_tells_105 : decode cL_tells 105 = .ok (.iconst 0, 1) := by decide +kernel
theorem dL_tells_106 : decode cL_tells 106 = .ok (.ireturn, 1) := by decide +kernel
theorem dL_isSo_0 : decode cL_isSo 0 = .ok (.bipush 6, 2) := by decide +kernel
theorem dL_isSo_2 : decode cL_isSo 2 = .ok (.newarray .int, 2) := by decide +kernel
theorem dL_isSo_4 : decode cL_isSo 4 = .ok (.astore 5, 2) := by decide +kernel
theorem dL_isSo_6 : decode cL_isSo 6 = .ok (.iconst (-1), 1) := by decide +kernel
theorem dL_isSo_7 : decode cL_isSo 7 = .ok (.istore 6, 2) := by decide +kernel
theorem dL_isSo_9 : decode cL_isSo 9 = .ok (.iconst 0, 1) := by decide +kernel
theorem dL_isSo_10 : decode cL_isSo 10 = .ok (.istore 7, 2) := by decide +kernel
theorem dL_isSo_12 : decode cL_isSo 12 = .ok (.iconst 1, 1) := by decide +kernel
theorem dL_isSo_13 : decode cL_isSo 13 = .ok (.istore 8, 2) := by decide +kernel
theorem dL_isSo_15 : decode cL_isSo 15 = .ok (.iconst 0, 1) := by decide +kernel
theorem dL_isSo_16 : decode cL_isSo 16 = .ok (.istore 9, 2) := by decide +kernel
theorem dL_isSo_18 : decode cL_isSo 18 = .ok (.iload 9, 2) := by decide +kernel
theorem dL_isSo_20 : decode cL_isSo 20 = .ok (.aload_n 1, 1) := by decide +kernel
theorem dL_isSo_21 : decode cL_isSo 21 = .ok (.bipush 7, 2) := by decide +kernel
theorem dL_isSo_23 : decode cL_isSo 23 = .ok (.iaload, 1) := by decide +kernel
theorem dL_isSo_24 : decode cL_isSo 24 = .ok (.if_icmp .ge 247, 3) := by decide +kernel
theorem dL_isSo_27 : decode cL_isSo 27 = .ok (.iload 8, 2) := by decide +kernel
theorem dL_isSo_29 : decode cL_isSo 29 = .ok (.ifCond .eq 242, 3) := by decide +kernel
theorem dL_isSo_32 : decode cL_isSo 32 = .ok (.bipush 8, 2) := by decide +kernel
theorem dL_isSo_34 : decode cL_isSo 34 = .ok (.iload 9, 2) := by decide +kernel
theorem dL_isSo_36 : decode cL_isSo 36 = .ok (.imul, 1) := by decide +kernel
theorem dL_isSo_37 : decode cL_isSo 37 = .ok (.istore 10, 2) := by decide +kernel
theorem dL_isSo_39 : decode cL_isSo 39 = .ok (.aload_n 2, 1) := by decide +kernel
theorem dL_isSo_40 : decode cL_isSo 40 = .ok (.iload 10, 2) := by decide +kernel
theorem dL_isSo_42 : decode cL_isSo 42 = .ok (.iconst 2, 1) := by decide +kernel
theorem dL_isSo_43 : decode cL_isSo 43 = .ok (.iadd, 1) := by decide +kernel
theorem dL_isSo_44 : decode cL_isSo 44 = .ok (.iaload, 1) := by decide +kernel
theorem dL_isSo_45 : decode cL_isSo 45 = .ok (.iconst 3, 1) := by decide +kernel
theorem dL_isSo_46 : decode cL_isSo 46 = .ok (.aload_n 2, 1) := by decide +kernel
theorem dL_isSo_47 : decode cL_isSo 47 = .ok (.iload 10, 2) := by decide +kernel
theorem dL_isSo_49 : decode cL_isSo 49 = .ok (.iconst 3, 1) := by decide +kernel
theorem dL_isSo_50 : decode cL_isSo 50 = .ok (.iadd, 1) := by decide +kernel
theorem dL_isSo_51 : decode cL_isSo 51 = .ok (.iaload, 1) := by decide +kernel
theorem dL_isSo_52 : decode cL_isSo 52 = .ok (.imul, 1) := by decide +kernel
theorem dL_isSo_53 : decode cL_isSo 53 = .ok (.iadd, 1) := by decide +kernel
theorem dL_isSo_54 : decode cL_isSo 54 = .ok (.istore 11, 2) := by decide +kernel
theorem dL_isSo_56 : decode cL_isSo 56 = .ok (.aload_n 2, 1) := by decide +kernel
theorem dL_isSo_57 : decode cL_isSo 57 = .ok (.iload 10, 2) := by decide +kernel
theorem dL_isSo_59 : decode cL_isSo 59 = .ok (.iconst 4, 1) := by decide +kernel
theorem dL_isSo_60 : decode cL_isSo 60 = .ok (.iadd, 1) := by decide +kernel
theorem dL_isSo_61 : decode cL_isSo 61 = .ok (.iaload, 1) := by decide +kernel
theorem dL_isSo_62 : decode cL_isSo 62 = .ok (.istore 12, 2) := by decide +kernel
theorem dL_isSo_64 : decode cL_isSo 64 = .ok (.aload 5, 2) := by decide +kernel
theorem dL_isSo_66 : decode cL_isSo 66 = .ok (.iload 12, 2) := by decide +kernel
theorem dL_isSo_68 : decode cL_isSo 68 = .ok (.dup2, 1) := by decide +kernel
theorem dL_isSo_69 : decode cL_isSo 69 = .ok (.iaload, 1) := by decide +kernel
theorem dL_isSo_70 : decode cL_isSo 70 = .ok (.iconst 1, 1) := by decide +kernel
theorem dL_isSo_71 : decode cL_isSo 71 = .ok (.iadd, 1) := by decide +kernel
theorem dL_isSo_72 : decode cL_isSo 72 = .ok (.iastore, 1) := by decide +kernel
theorem dL_isSo_73 : decode cL_isSo 73 = .ok (.aload 5, 2) := by decide +kernel
theorem dL_isSo_75 : decode cL_isSo 75 = .ok (.iconst 3, 1) := by decide +kernel
theorem dL_isSo_76 : decode cL_isSo 76 = .ok (.iload 12, 2) := by decide +kernel
theorem dL_isSo_78 : decode cL_isSo 78 = .ok (.iadd, 1) := by decide +kernel
theorem dL_isSo_79 : decode cL_isSo 79 = .ok (.dup2, 1) := by decide +kernel
theorem dL_isSo_80 : decode cL_isSo 80 = .ok (.iaload, 1) := by decide +kernel
theorem dL_isSo_81 : decode cL_isSo 81 = .ok (.aload_n 2, 1) := by decide +kernel
theorem dL_isSo_82 : decode cL_isSo 82 = .ok (.iload 10, 2) := by decide +kernel
theorem dL_isSo_84 : decode cL_isSo 84 = .ok (.iconst 1, 1) := by decide +kernel
theorem dL_isSo_85 : decode cL_isSo 85 = .ok (.iadd, 1) := by decide +kernel
theorem dL_isSo_86 : decode cL_isSo 86 = .ok (.iaload, 1) := by decide +kernel
theorem dL_isSo_87 : decode cL_isSo 87 = .ok (.iadd, 1) := by decide +kernel
theorem dL_isSo_88 : decode cL_isSo 88 = .ok (.iastore, 1) := by decide +kernel
theorem dL_isSo_89 : decode cL_isSo 89 = .ok (.iload 12, 2) := by decide +kernel
theorem dL_isSo_91 : decode cL_isSo 91 = .ok (.ifCond .ne 15, 3) := by decide +kernel
theorem dL_isSo_94 : decode cL_isSo 94 = .ok (.iload 11, 2) := by decide +kernel
theorem dL_isSo_96 : decode cL_isSo 96 = .ok (.iload 6, 2) := by decide +kernel
theorem dL_isSo_98 : decode cL_isSo 98 = .ok (.if_icmp .le 8, 3) := by decide +kernel
theorem dL_isSo_101 : decode cL_isSo 101 = .ok (.iload 11, 2) := by decide +kernel
theorem dL_isSo_103 : decode cL_isSo 103 = .ok (.goto 5, 3) := by decide +kernel
theorem dL_isSo_106 : decode cL_isSo 106 = .ok (.iload 6, 2) := by decide +kernel
theorem dL_isSo_108 : decode cL_isSo 108 = .ok (.istore 6, 2) := by decide +kernel
theorem dL_isSo_110 : decode cL_isSo 110 = .ok (.iload 7, 2) := by decide +kernel
theorem dL_isSo_112 : decode cL_isSo 112 = .ok (.iload 12, 2) := by decide +kernel
theorem dL_isSo_114 : decode cL_isSo 114 = .ok (.iconst 2, 1) := by decide +kernel
theorem dL_isSo_115 : decode cL_isSo 115 = .ok (.if_icmp .ge 12, 3) := by decide +kernel
theorem dL_isSo_118 : decode cL_isSo 118 = .ok (.aload_n 2, 1) := by decide +kernel
theorem dL_isSo_119 : decode cL_isSo 119 = .ok (.iload 10, 2) := by decide +kernel
theorem dL_isSo_121 : decode cL_isSo 121 = .ok (.iconst 2, 1) := by decide +kernel
theorem dL_isSo_122 : decode cL_isSo 122 = .ok (.iadd, 1) := by decide +kernel
theorem dL_isSo_123 : decode cL_isSo 123 = .ok (.iaload, 1) := by decide +kernel
theorem dL_isSo_124 : decode cL_isSo 124 = .ok (.goto 4, 3) := by decide +kernel
theorem dL_isSo_127 : decode cL_isSo 127 = .ok (.iconst 0, 1) := by decide +kernel
theorem dL_isSo_128 : decode cL_isSo 128 = .ok (.iadd, 1) := by decide +kernel
theorem dL_isSo_129 : decode cL_isSo 129 = .ok (.istore 7, 2) := by decide +kernel
theorem dL_isSo_131 : decode cL_isSo 131 = .ok (.iconst 0, 1) := by decide +kernel
theorem dL_isSo_132 : decode cL_isSo 132 = .ok (.istore 13, 2) := by decide +kernel
theorem dL_isSo_134 : decode cL_isSo 134 = .ok (.iload 13, 2) := by decide +kernel
theorem dL_isSo_136 : decode cL_isSo 136 = .ok (.bipush 8, 2) := by decide +kernel
theorem dL_isSo_138 : decode cL_isSo 138 = .ok (.if_icmp .ge 52, 3) := by decide +kernel
theorem dL_isSo_141 : decode cL_isSo 141 = .ok (.iload 8, 2) := by decide +kernel
theorem dL_isSo_143 : decode cL_isSo 143 = .ok (.ifCond .eq 38, 3) := by decide +kernel
theorem dL_isSo_146 : decode cL_isSo 146 = .ok (.aload_n 0, 1) := by decide +kernel
theorem dL_isSo_147 : decode cL_isSo 147 = .ok (.iload 9, 2) := by decide +kernel
theorem dL_isSo_149 : decode cL_isSo 149 = .ok (.iload 13, 2) := by decide +kernel
theorem dL_isSo_151 : decode cL_isSo 151 = .ok (.iconst 4, 1) := by decide +kernel
theorem dL_isSo_152 : decode cL_isSo 152 = .ok (.if_icmp .ge 8, 3) := by decide +kernel
theorem dL_isSo_155 : decode cL_isSo 155 = .ok (.iload 13, 2) := by decide +kernel
theorem dL_isSo_157 : decode cL_isSo 157 = .ok (.goto 7, 3) := by decide +kernel
theorem dL_isSo_160 : decode cL_isSo 160 = .ok (.iload 13, 2) := by decide +kernel
theorem dL_isSo_162 : decode cL_isSo 162 = .ok (.iconst 1, 1) := by decide +kernel
theorem dL_isSo_163 : decode cL_isSo 163 = .ok (.iadd, 1) := by decide +kernel
theorem dL_isSo_164 : decode cL_isSo 164 = .ok (.invokestatic 115, 3) := by decide +kernel
theorem dL_isSo_167 : decode cL_isSo 167 = .ok (.aload_n 2, 1) := by decide +kernel
theorem dL_isSo_168 : decode cL_isSo 168 = .ok (.iload 10, 2) := by decide +kernel
theorem dL_isSo_170 : decode cL_isSo 170 = .ok (.iload 13, 2) := by decide +kernel
theorem dL_isSo_172 : decode cL_isSo 172 = .ok (.iadd, 1) := by decide +kernel
theorem dL_isSo_173 : decode cL_isSo 173 = .ok (.iaload, 1) := by decide +kernel
theorem dL_isSo_174 : decode cL_isSo 174 = .ok (.if_icmp .ne 7, 3) := by decide +kernel
theorem dL_isSo_177 : decode cL_isSo 177 = .ok (.iconst 1, 1) := by decide +kernel
theorem dL_isSo_178 : decode cL_isSo 178 = .ok (.goto 4, 3) := by decide +kernel
theorem dL_isSo_181 : decode cL_isSo 181 = .ok (.iconst 0, 1) := by decide +kernel
theorem dL_isSo_182 : decode cL_isSo 182 = .ok (.istore 8, 2) := by decide +kernel
theorem dL_isSo_184 : decode cL_isSo 184 = .ok (.iinc 13 1, 3) := by decide +kernel
theorem dL_isSo_187 : decode cL_isSo 187 = .ok (.goto (-53), 3) := by decide +kernel
theorem dL_isSo_190 : decode cL_isSo 190 = .ok (.iload 8, 2) := by decide +kernel
theorem dL_isSo_192 : decode cL_isSo 192 = .ok (.ifCond .eq 19, 3) := by decide +kernel
theorem dL_isSo_195 : decode cL_isSo 195 = .ok (.aload_n 0, 1) := by decide +kernel
theorem dL_isSo_196 : decode cL_isSo 196 = .ok (.iload 9, 2) := by decide +kernel
theorem dL_isSo_198 : decode cL_isSo 198 = .ok (.iconst 4, 1) := by decide +kernel
theorem dL_isSo_199 : decode cL_isSo 199 = .ok (.invokestatic 115, 3) := by decide +kernel
theorem dL_isSo_202 : decode cL_isSo 202 = .ok (.iload 11, 2) := by decide +kernel
theorem dL_isSo_204 : decode cL_isSo 204 = .ok (.if_icmp .ne 7, 3) := by decide +kernel
theorem dL_isSo_207 : decode cL_isSo 207 = .ok (.iconst 1, 1) := by decide +kernel
theorem dL_isSo_208 : decode cL_isSo 208 = .ok (.goto 4, 3) := by decide +kernel
theorem dL_isSo_211 : decode cL_isSo 211 = .ok (.iconst 0, 1) := by decide +kernel
theorem dL_isSo_212 : decode cL_isSo 212 = .ok (.istore 8, 2) := by decide +kernel
theorem dL_isSo_214 : decode cL_isSo 214 = .ok (.iconst 0, 1) := by decide +kernel
theorem dL_isSo_215 : decode cL_isSo 215 = .ok (.istore 13, 2) := by decide +kernel
theorem dL_isSo_217 : decode cL_isSo 217 = .ok (.iload 13, 2) := by decide +kernel
theorem dL_isSo_219 : decode cL_isSo 219 = .ok (.aload_n 1, 1) := by decide +kernel
theorem dL_isSo_220 : decode cL_isSo 220 = .ok (.bipush 8, 2) := by decide +kernel
theorem dL_isSo_222 : decode cL_isSo 222 = .ok (.iaload, 1) := by decide +kernel
theorem dL_isSo_223 : decode cL_isSo 223 = .ok (.if_icmp .ge 42, 3) := by decide +kernel
theorem dL_isSo_226 : decode cL_isSo 226 = .ok (.iload 8, 2) := by decide +kernel
theorem dL_isSo_228 : decode cL_isSo 228 = .ok (.ifCond .eq 28, 3) := by decide +kernel
theorem dL_isSo_231 : decode cL_isSo 231 = .ok (.aload_n 0, 1) := by decide +kernel
theorem dL_isSo_232 : decode cL_isSo 232 = .ok (.iload 9, 2) := by decide +kernel
theorem dL_isSo_234 : decode cL_isSo 234 = .ok (.iload 13, 2) := by decide +kernel
theorem dL_isSo_236 : decode cL_isSo 236 = .ok (.invokestatic 118, 3) := by decide +kernel
theorem dL_isSo_239 : decode cL_isSo 239 = .ok (.aload_n 1, 1) := by decide +kernel
theorem dL_isSo_240 : decode cL_isSo 240 = .ok (.aload_n 2, 1) := by decide +kernel
theorem dL_isSo_241 : decode cL_isSo 241 = .ok (.aload_n 3, 1) := by decide +kernel
theorem dL_isSo_242 : decode cL_isSo 242 = .ok (.iload 9, 2) := by decide +kernel
theorem dL_isSo_244 : decode cL_isSo 244 = .ok (.iload 13, 2) := by decide +kernel
theorem dL_isSo_246 : decode cL_isSo 246 = .ok (.invokestatic 15, 3) := by decide +kernel
theorem dL_isSo_249 : decode cL_isSo 249 = .ok (.if_icmp .ne 7, 3) := by decide +kernel
theorem dL_isSo_252 : decode cL_isSo 252 = .ok (.iconst 1, 1) := by decide +kernel
theorem dL_isSo_253 : decode cL_isSo 253 = .ok (.goto 4, 3) := by decide +kernel
theorem dL_isSo_256 : decode cL_isSo 256 = .ok (.iconst 0, 1) := by decide +kernel
theorem dL_isSo_257 : decode cL_isSo 257 = .ok (.istore 8, 2) := by decide +kernel
theorem dL_isSo_259 : decode cL_isSo 259 = .ok (.iinc 13 1, 3) := by decide +kernel
theorem dL_isSo_262 : decode cL_isSo 262 = .ok (.goto (-45), 3) := by decide +kernel
theorem dL_isSo_265 : decode cL_isSo 265 = .ok (.iinc 9 1, 3) := by decide +kernel
theorem dL_isSo_268 : decode cL_isSo 268 = .ok (.goto (-250), 3) := by decide +kernel
theorem dL_isSo_271 : decode cL_isSo 271 = .ok (.iconst 0, 1) := by decide +kernel
theorem dL_isSo_272 : decode cL_isSo 272 = .ok (.istore 9, 2) := by decide +kernel
theorem dL_isSo_274 : decode cL_isSo 274 = .ok (.iload 9, 2) := by decide +kernel
theorem dL_isSo_276 : decode cL_isSo 276 = .ok (.bipush 8, 2) := by decide +kernel
theorem dL_isSo_278 : decode cL_isSo 278 = .ok (.aload_n 1, 1) := by decide +kernel
theorem dL_isSo_279 : decode cL_isSo 279 = .ok (.bipush 8, 2) := by decide +kernel
theorem dL_isSo_281 : decode cL_isSo 281 = .ok (.iaload, 1) := by decide +kernel
theorem dL_isSo_282 : decode cL_isSo 282 = .ok (.imul, 1) := by decide +kernel
theorem dL_isSo_283 : decode cL_isSo 283 = .ok (.if_icmp .ge 42, 3) := by decide +kernel
theorem dL_isSo_286 : decode cL_isSo 286 = .ok (.iload 8, 2) := by decide +kernel
theorem dL_isSo_288 : decode cL_isSo 288 = .ok (.ifCond .eq 37, 3) := by decide +kernel
theorem dL_isSo_291 : decode cL_isSo 291 = .ok (.aload_n 0, 1) := by decide +kernel
theorem dL_isSo_292 : decode cL_isSo 292 = .ok (.iload 9, 2) := by decide +kernel
theorem dL_isSo_294 : decode cL_isSo 294 = .ok (.bipush 8, 2) := by decide +kernel
theorem dL_isSo_296 : decode cL_isSo 296 = .ok (.idiv, 1) := by decide +kernel
theorem dL_isSo_297 : decode cL_isSo 297 = .ok (.iload 9, 2) := by decide +kernel
theorem dL_isSo_299 : decode cL_isSo 299 = .ok (.bipush 8, 2) := by decide +kernel
theorem dL_isSo_301 : decode cL_isSo 301 = .ok (.irem, 1) := by decide +kernel
theorem dL_isSo_302 : decode cL_isSo 302 = .ok (.invokestatic 121, 3) := by decide +kernel
theorem dL_isSo_305 : decode cL_isSo 305 = .ok (.aload_n 3, 1) := by decide +kernel
theorem dL_isSo_306 : decode cL_isSo 306 = .ok (.iload 9, 2) := by decide +kernel
theorem dL_isSo_308 : decode cL_isSo 308 = .ok (.iaload, 1) := by decide +kernel
theorem dL_isSo_309 : decode cL_isSo 309 = .ok (.if_icmp .ne 7, 3) := by decide +kernel
theorem dL_isSo_312 : decode cL_isSo 312 = .ok (.iconst 1, 1) := by decide +kernel
theorem dL_isSo_313 : decode cL_isSo 313 = .ok (.goto 4, 3) := by decide +kernel
theorem dL_isSo_316 : decode cL_isSo 316 = .ok (.iconst 0, 1) := by decide +kernel
theorem dL_isSo_317 : decode cL_isSo 317 = .ok (.istore 8, 2) := by decide +kernel
theorem dL_isSo_319 : decode cL_isSo 319 = .ok (.iinc 9 1, 3) := by decide +kernel
theorem dL_isSo_322 : decode cL_isSo 322 = .ok (.goto (-48), 3) := by decide +kernel
theorem dL_isSo_325 : decode cL_isSo 325 = .ok (.iconst 0, 1) := by decide +kernel
theorem dL_isSo_326 : decode cL_isSo 326 = .ok (.istore 9, 2) := by decide +kernel
theorem dL_isSo_328 : decode cL_isSo 328 = .ok (.iload 9, 2) := by decide +kernel
theorem dL_isSo_330 : decode cL_isSo 330 = .ok (.aload_n 1, 1) := by decide +kernel
theorem dL_isSo_331 : decode cL_isSo 331 = .ok (.iconst 0, 1) := by decide +kernel
theorem dL_isSo_332 : decode cL_isSo 332 = .ok (.iaload, 1) := by decide +kernel
theorem dL_isSo_333 : decode cL_isSo 333 = .ok (.if_icmp .ge 85, 3) := by decide +kernel
theorem dL_isSo_336 : decode cL_isSo 336 = .ok (.iload 8, 2) := by decide +kernel
theorem dL_isSo_338 : decode cL_isSo 338 = .ok (.ifCond .eq 80, 3) := by decide +kernel
theorem dL_isSo_341 : decode cL_isSo 341 = .ok (.aload_n 0, 1) := by decide +kernel
theorem dL_isSo_342 : decode cL_isSo 342 = .ok (.iload 9, 2) := by decide +kernel
theorem dL_isSo_344 : decode cL_isSo 344 = .ok (.invokestatic 124, 3) := by decide +kernel
theorem dL_isSo_347 : decode cL_isSo 347 = .ok (.aload_n 1, 1) := by decide +kernel
theorem dL_isSo_348 : decode cL_isSo 348 = .ok (.aload_n 2, 1) := by decide +kernel
theorem dL_isSo_349 : decode cL_isSo 349 = .ok (.iload 9, 2) := by decide +kernel
theorem dL_isSo_351 : decode cL_isSo 351 = .ok (.invokestatic 19, 3) := by decide +kernel
theorem dL_isSo_354 : decode cL_isSo 354 = .ok (.if_icmp .ne 7, 3) := by decide +kernel
theorem dL_isSo_357 : decode cL_isSo 357 = .ok (.iconst 1, 1) := by decide +kernel
theorem dL_isSo_358 : decode cL_isSo 358 = .ok (.goto 4, 3) := by decide +kernel
theorem dL_isSo_361 : decode cL_isSo 361 = .ok (.iconst 0, 1) := by decide +kernel
theorem dL_isSo_362 : decode cL_isSo 362 = .ok (.istore 8, 2) := by decide +kernel
theorem dL_isSo_364 : decode cL_isSo 364 = .ok (.iconst 0, 1) := by decide +kernel
theorem dL_isSo_365 : decode cL_isSo 365 = .ok (.istore 10, 2) := by decide +kernel
theorem dL_isSo_367 : decode cL_isSo 367 = .ok (.iload 10, 2) := by decide +kernel
theorem dL_isSo_369 : decode cL_isSo 369 = .ok (.aload_n 1, 1) := by decide +kernel
theorem dL_isSo_370 : decode cL_isSo 370 = .ok (.iconst 0, 1) := by decide +kernel
theorem dL_isSo_371 : decode cL_isSo 371 = .ok (.iaload, 1) := by decide +kernel
theorem dL_isSo_372 : decode cL_isSo 372 = .ok (.if_icmp .ge 40, 3) := by decide +kernel
theorem dL_isSo_375 : decode cL_isSo 375 = .ok (.iload 8, 2) := by decide +kernel
theorem dL_isSo_377 : decode cL_isSo 377 = .ok (.ifCond .eq 26, 3) := by decide +kernel
theorem dL_isSo_380 : decode cL_isSo 380 = .ok (.aload_n 0, 1) := by decide +kernel
theorem dL_isSo_381 : decode cL_isSo 381 = .ok (.iload 9, 2) := by decide +kernel
theorem dL_isSo_383 : decode cL_isSo 383 = .ok (.iload 10, 2) := by decide +kernel
theorem dL_isSo_385 : decode cL_isSo 385 = .ok (.invokestatic 127, 3) := by decide +kernel
theorem dL_isSo_388 : decode cL_isSo 388 = .ok (.aload_n 1, 1) := by decide +kernel
theorem dL_isSo_389 : decode cL_isSo 389 = .ok (.iload 9, 2) := by decide +kernel
theorem dL_isSo_391 : decode cL_isSo 391 = .ok (.iload 10, 2) := by decide +kernel
theorem dL_isSo_393 : decode cL_isSo 393 = .ok (.invokestatic 9, 3) := by decide +kernel
theorem dL_isSo_396 : decode cL_isSo 396 = .ok (.if_icmp .ne 7, 3) := by decide +kernel
theorem dL_isSo_399 : decode cL_isSo 399 = .ok (.iconst 1, 1) := by decide +kernel
theorem dL_isSo_400 : decode cL_isSo 400 = .ok (.goto 4, 3) := by decide +kernel
theorem dL_isSo_403 : decode cL_isSo 403 = .ok (.iconst 0, 1) := by decide +kernel
theorem dL_isSo_404 : decode cL_isSo 404 = .ok (.istore 8, 2) := by decide +kernel
theorem dL_isSo_406 : decode cL_isSo 406 = .ok (.iinc 10 1, 3) := by decide +kernel
theorem dL_isSo_409 : decode cL_isSo 409 = .ok (.goto (-42), 3) := by decide +kernel
theorem dL_isSo_412 : decode cL_isSo 412 = .ok (.iinc 9 1, 3) := by decide +kernel
theorem dL_isSo_415 : decode cL_isSo 415 = .ok (.goto (-87), 3) := by decide +kernel
theorem dL_isSo_418 : decode cL_isSo 418 = .ok (.iconst 0, 1) := by decide +kernel
theorem dL_isSo_419 : decode cL_isSo 419 = .ok (.istore 9, 2) := by decide +kernel
theorem dL_isSo_421 : decode cL_isSo 421 = .ok (.iload 9, 2) := by decide +kernel
theorem dL_isSo_423 : decode cL_isSo 423 = .ok (.aload_n 1, 1) := by decide +kernel
theorem dL_isSo_424 : decode cL_isSo 424 = .ok (.bipush 12, 2) := by decide +kernel
theorem dL_isSo_426 : decode cL_isSo 426 = .ok (.iaload, 1) := by decide +kernel
theorem dL_isSo_427 : decode cL_isSo 427 = .ok (.if_icmp .ge 35, 3) := by decide +kernel
theorem dL_isSo_430 : decode cL_isSo 430 = .ok (.iload 8, 2) := by decide +kernel
theorem dL_isSo_432 : decode cL_isSo 432 = .ok (.ifCond .eq 30, 3) := by decide +kernel
theorem dL_isSo_435 : decode cL_isSo 435 = .ok (.aload_n 0, 1) := by decide +kernel
theorem dL_isSo_436 : decode cL_isSo 436 = .ok (.iload 9, 2) := by decide +kernel
theorem dL_isSo_438 : decode cL_isSo 438 = .ok (.invokestatic 130, 3) := by decide +kernel
theorem dL_isSo_441 : decode cL_isSo 441 = .ok (.aload 4, 2) := by decide +kernel
theorem dL_isSo_443 : decode cL_isSo 443 = .ok (.iload 9, 2) := by decide +kernel
theorem dL_isSo_445 : decode cL_isSo 445 = .ok (.iaload, 1) := by decide +kernel
theorem dL_isSo_446 : decode cL_isSo 446 = .ok (.if_icmp .ne 7, 3) := by decide +kernel
theorem dL_isSo_449 : decode cL_isSo 449 = .ok (.iconst 1, 1) := by decide +kernel
theorem dL_isSo_450 : decode cL_isSo 450 = .ok (.goto 4, 3) := by decide +kernel
theorem dL_isSo_453 : decode cL_isSo 453 = .ok (.iconst 0, 1) := by decide +kernel
theorem dL_isSo_454 : decode cL_isSo 454 = .ok (.istore 8, 2) := by decide +kernel
theorem dL_isSo_456 : decode cL_isSo 456 = .ok (.iinc 9 1, 3) := by decide +kernel
theorem dL_isSo_459 : decode cL_isSo 459 = .ok (.goto (-38), 3) := by decide +kernel
theorem dL_isSo_462 : decode cL_isSo 462 = .ok (.aload 5, 2) := by decide +kernel
theorem dL_isSo_464 : decode cL_isSo 464 = .ok (.iconst 0, 1) := by decide +kernel
theorem dL_isSo_465 : decode cL_isSo 465 = .ok (.iaload, 1) := by decide +kernel
theorem dL_isSo_466 : decode cL_isSo 466 = .ok (.aload 5, 2) := by decide +kernel
theorem dL_isSo_468 : decode cL_isSo 468 = .ok (.iconst 1, 1) := by decide +kernel
theorem dL_isSo_469 : decode cL_isSo 469 = .ok (.iaload, 1) := by decide +kernel
theorem dL_isSo_470 : decode cL_isSo 470 = .ok (.iadd, 1) := by decide +kernel
theorem dL_isSo_471 : decode cL_isSo 471 = .ok (.istore 9, 2) := by decide +kernel
theorem dL_isSo_473 : decode cL_isSo 473 = .ok (.iload 9, 2) := by decide +kernel
theorem dL_isSo_475 : decode cL_isSo 475 = .ok (.ifCond .ne 7, 3) := by decide +kernel
theorem dL_isSo_478 : decode cL_isSo 478 = .ok (.dconst 0, 1) := by decide +kernel
theorem dL_isSo_479 : decode cL_isSo 479 = .ok (.goto 10, 3) := by decide +kernel
theorem dL_isSo_482 : decode cL_isSo 482 = .ok (.iload 7, 2) := by decide +kernel
theorem dL_isSo_484 : decode cL_isSo 484 = .ok (.i2d, 1) := by decide +kernel
theorem dL_isSo_485 : decode cL_isSo 485 = .ok (.iload 9, 2) := by decide +kernel
theorem dL_isSo_487 : decode cL_isSo 487 = .ok (.i2d, 1) := by decide +kernel
theorem dL_isSo_488 : decode cL_isSo 488 = .ok (.ddiv, 1) := by decide +kernel
theorem dL_isSo_489 : decode cL_isSo 489 = .ok (.dstore 10, 2) := by decide +kernel
theorem dL_isSo_491 : decode cL_isSo 491 = .ok (.iload 8, 2) := by decide +kernel
theorem dL_isSo_493 : decode cL_isSo 493 = .ok (.ifCond .eq 119, 3) := by decide +kernel
theorem dL_isSo_496 : decode cL_isSo 496 = .ok (.aload_n 0, 1) := by decide +kernel
theorem dL_isSo_497 : decode cL_isSo 497 = .ok (.aload_n 1, 1) := by decide +kernel
theorem dL_isSo_498 : decode cL_isSo 498 = .ok (.bipush 12, 2) := by decide +kernel
theorem dL_isSo_500 : decode cL_isSo 500 = .ok (.iaload, 1) := by decide +kernel
theorem dL_isSo_501 : decode cL_isSo 501 = .ok (.invokestatic 130, 3) := by decide +kernel
theorem dL_isSo_504 : decode cL_isSo 504 = .ok (.iconst (-1), 1) := by decide +kernel
theorem dL_isSo_505 : decode cL_isSo 505 = .ok (.if_icmp .ne 107, 3) := by decide +kernel
theorem dL_isSo_508 : decode cL_isSo 508 = .ok (.aload_n 0, 1) := by decide +kernel
theorem dL_isSo_509 : decode cL_isSo 509 = .ok (.iconst 0, 1) := by decide +kernel
theorem dL_isSo_510 : decode cL_isSo 510 = .ok (.invokestatic 133, 3) := by decide +kernel
theorem dL_isSo_513 : decode cL_isSo 513 = .ok (.aload_n 1, 1) := by decide +kernel
theorem dL_isSo_514 : decode cL_isSo 514 = .ok (.iconst 0, 1) := by decide +kernel
theorem dL_isSo_515 : decode cL_isSo 515 = .ok (.iaload, 1) := by decide +kernel
theorem dL_isSo_516 : decode cL_isSo 516 = .ok (.if_icmp .ne 96, 3) := by decide +kernel
theorem dL_isSo_519 : decode cL_isSo 519 = .ok (.aload_n 0, 1) := by decide +kernel
theorem dL_isSo_520 : decode cL_isSo 520 = .ok (.bipush 9, 2) := by decide +kernel
theorem dL_isSo_522 : decode cL_isSo 522 = .ok (.invokestatic 133, 3) := by decide +kernel
theorem dL_isSo_525 : decode cL_isSo 525 = .ok (.aload_n 1, 1) := by decide +kernel
theorem dL_isSo_526 : decode cL_isSo 526 = .ok (.bipush 10, 2) := by decide +kernel
theorem dL_isSo_528 : decode cL_isSo 528 = .ok (.iaload, 1) := by decide +kernel
theorem dL_isSo_529 : decode cL_isSo 529 = .ok (.if_icmp .ne 83, 3) := by decide +kernel
theorem dL_isSo_532 : decode cL_isSo 532 = .ok (.aload_n 0, 1) := by decide +kernel
theorem dL_isSo_533 : decode cL_isSo 533 = .ok (.bipush 10, 2) := by decide +kernel
theorem dL_isSo_535 : decode cL_isSo 535 = .ok (.invokestatic 133, 3) := by decide +kernel
theorem dL_isSo_538 : decode cL_isSo 538 = .ok (.aload_n 1, 1) := by decide +kernel
theorem dL_isSo_539 : decode cL_isSo 539 = .ok (.bipush 11, 2) := by decide +kernel
theorem dL_isSo_541 : decode cL_isSo 541 = .ok (.iaload, 1) := by decide +kernel
theorem dL_isSo_542 : decode cL_isSo 542 = .ok (.if_icmp .ne 70, 3) := by decide +kernel
theorem dL_isSo_545 : decode cL_isSo 545 = .ok (.aload_n 0, 1) := by decide +kernel
theorem dL_isSo_546 : decode cL_isSo 546 = .ok (.bipush 11, 2) := by decide +kernel
theorem dL_isSo_548 : decode cL_isSo 548 = .ok (.invokestatic 133, 3) := by decide +kernel
theorem dL_isSo_551 : decode cL_isSo 551 = .ok (.iload 6, 2) := by decide +kernel
theorem dL_isSo_553 : decode cL_isSo 553 = .ok (.if_icmp .ne 59, 3) := by decide +kernel
theorem dL_isSo_556 : decode cL_isSo 556 = .ok (.aload_n 0, 1) := by decide +kernel
theorem dL_isSo_557 : decode cL_isSo 557 = .ok (.bipush 7, 2) := by decide +kernel
theorem dL_isSo_559 : decode cL_isSo 559 = .ok (.invokestatic 133, 3) := by decide +kernel
theorem dL_isSo_562 : decode cL_isSo 562 = .ok (.aload 5, 2) := by decide +kernel
theorem dL_isSo_564 : decode cL_isSo 564 = .ok (.iconst 3, 1) := by decide +kernel
theorem dL_isSo_565 : decode cL_isSo 565 = .ok (.iaload, 1) := by decide +kernel
theorem dL_isSo_566 : decode cL_isSo 566 = .ok (.aload 5, 2) := by decide +kernel
theorem dL_isSo_568 : decode cL_isSo 568 = .ok (.iconst 4, 1) := by decide +kernel
theorem dL_isSo_569 : decode cL_isSo 569 = .ok (.iaload, 1) := by decide +kernel
theorem dL_isSo_570 : decode cL_isSo 570 = .ok (.iadd, 1) := by decide +kernel
theorem dL_isSo_571 : decode cL_isSo 571 = .ok (.if_icmp .ne 41, 3) := by decide +kernel
theorem dL_isSo_574 : decode cL_isSo 574 = .ok (.aload_n 0, 1) := by decide +kernel
theorem dL_isSo_575 : decode cL_isSo 575 = .ok (.bipush 8, 2) := by decide +kernel
theorem dL_isSo_577 : decode cL_isSo 577 = .ok (.invokestatic 133, 3) := by decide +kernel
theorem dL_isSo_580 : decode cL_isSo 580 = .ok (.aload 5, 2) := by decide +kernel
theorem dL_isSo_582 : decode cL_isSo 582 = .ok (.iconst 5, 1) := by decide +kernel
theorem dL_isSo_583 : decode cL_isSo 583 = .ok (.iaload, 1) := by decide +kernel
theorem dL_isSo_584 : decode cL_isSo 584 = .ok (.if_icmp .ne 28, 3) := by decide +kernel
theorem dL_isSo_587 : decode cL_isSo 587 = .ok (.aload 5, 2) := by decide +kernel
theorem dL_isSo_589 : decode cL_isSo 589 = .ok (.iconst 2, 1) := by decide +kernel
theorem dL_isSo_590 : decode cL_isSo 590 = .ok (.iaload, 1) := by decide +kernel
theorem dL_isSo_591 : decode cL_isSo 591 = .ok (.aload_n 1, 1) := by decide +kernel
theorem dL_isSo_592 : decode cL_isSo 592 = .ok (.bipush 12, 2) := by decide +kernel
theorem dL_isSo_594 : decode cL_isSo 594 = .ok (.iaload, 1) := by decide +kernel
theorem dL_isSo_595 : decode cL_isSo 595 = .ok (.if_icmp .ne 17, 3) := by decide +kernel
theorem dL_isSo_598 : decode cL_isSo 598 = .ok (.aload_n 0, 1) := by decide +kernel
theorem dL_isSo_599 : decode cL_isSo 599 = .ok (.invokevirtual 136, 3) := by decide +kernel
theorem dL_isSo_602 : decode cL_isSo 602 = .ok (.dload 10, 2) := by decide +kernel
theorem dL_isSo_604 : decode cL_isSo 604 = .ok (.dcmp .l, 1) := by decide +kernel
theorem dL_isSo_605 : decode cL_isSo 605 = .ok (.ifCond .ne 7, 3) := by decide +kernel
theorem dL_isSo_608 : decode cL_isSo 608 = .ok (.iconst 1, 1) := by decide +kernel
theorem dL_isSo_609 : decode cL_isSo 609 = .ok (.goto 4, 3) := by decide +kernel
theorem dL_isSo_612 : decode cL_isSo 612 = .ok (.iconst 0, 1) := by decide +kernel
theorem dL_isSo_613 : decode cL_isSo 613 = .ok (.istore 8, 2) := by decide +kernel
theorem dL_isSo_615 : decode cL_isSo 615 = .ok (.iconst 0, 1) := by decide +kernel
theorem dL_isSo_616 : decode cL_isSo 616 = .ok (.istore 12, 2) := by decide +kernel
theorem dL_isSo_618 : decode cL_isSo 618 = .ok (.iload 12, 2) := by decide +kernel
theorem dL_isSo_620 : decode cL_isSo 620 = .ok (.iconst 3, 1) := by decide +kernel
theorem dL_isSo_621 : decode cL_isSo 621 = .ok (.if_icmp .ge 55, 3) := by decide +kernel
theorem dL_isSo_624 : decode cL_isSo 624 = .ok (.iload 8, 2) := by decide +kernel
theorem dL_isSo_626 : decode cL_isSo 626 = .ok (.ifCond .eq 41, 3) := by decide +kernel
theorem dL_isSo_629 : decode cL_isSo 629 = .ok (.aload_n 0, 1) := by decide +kernel
theorem dL_isSo_630 : decode cL_isSo 630 = .ok (.iconst 1, 1) := by decide +kernel
theorem dL_isSo_631 : decode cL_isSo 631 = .ok (.iload 12, 2) := by decide +kernel
theorem dL_isSo_633 : decode cL_isSo 633 = .ok (.iadd, 1) := by decide +kernel
theorem dL_isSo_634 : decode cL_isSo 634 = .ok (.invokestatic 133, 3) := by decide +kernel
theorem dL_isSo_637 : decode cL_isSo 637 = .ok (.aload_n 1, 1) := by decide +kernel
theorem dL_isSo_638 : decode cL_isSo 638 = .ok (.bipush 7, 2) := by decide +kernel
theorem dL_isSo_640 : decode cL_isSo 640 = .ok (.iload 12, 2) := by decide +kernel
theorem dL_isSo_642 : decode cL_isSo 642 = .ok (.iadd, 1) := by decide +kernel
theorem dL_isSo_643 : decode cL_isSo 643 = .ok (.iaload, 1) := by decide +kernel
theorem dL_isSo_644 : decode cL_isSo 644 = .ok (.if_icmp .ne 23, 3) := by decide +kernel
theorem dL_isSo_647 : decode cL_isSo 647 = .ok (.aload_n 0, 1) := by decide +kernel
theorem dL_isSo_648 : decode cL_isSo 648 = .ok (.iconst 4, 1) := by decide +kernel
theorem dL_isSo_649 : decode cL_isSo 649 = .ok (.iload 12, 2) := by decide +kernel
theorem dL_isSo_651 : decode cL_isSo 651 = .ok (.iadd, 1) := by decide +kernel
theorem dL_isSo_652 : decode cL_isSo 652 = .ok (.invokestatic 133, 3) := by decide +kernel
theorem dL_isSo_655 : decode cL_isSo 655 = .ok (.aload 5, 2) := by decide +kernel
theorem dL_isSo_657 : decode cL_isSo 657 = .ok (.iload 12, 2) := by decide +kernel
theorem dL_isSo_659 : decode cL_isSo 659 = .ok (.iaload, 1) := by decide +kernel
theorem dL_isSo_660 : decode cL_isSo 660 = .ok (.if_icmp .ne 7, 3) := by decide +kernel
theorem dL_isSo_663 : decode cL_isSo 663 = .ok (.iconst 1, 1) := by decide +kernel
theorem dL_isSo_664 : decode cL_isSo 664 = .ok (.goto 4, 3) := by decide +kernel
theorem dL_isSo_667 : decode cL_isSo 667 = .ok (.iconst 0, 1) := by decide +kernel
theorem dL_isSo_668 : decode cL_isSo 668 = .ok (.istore 8, 2) := by decide +kernel
theorem dL_isSo_670 : decode cL_isSo 670 = .ok (.iinc 12 1, 3) := by decide +kernel
theorem dL_isSo_673 : decode cL_isSo 673 = .ok (.goto (-55), 3) := by decide +kernel
theorem dL_isSo_676 : decode cL_isSo 676 = .ok (.iload 8, 2) := by decide +kernel
theorem dL_isSo_678 : decode cL_isSo 678 = .ok (.ifCond .eq 35, 3) := by decide +kernel
theorem dL_isSo_681 : decode cL_isSo 681 = .ok (.aload_n 0, 1) := by decide +kernel
theorem dL_isSo_682 : decode cL_isSo 682 = .ok (.aload_n 1, 1) := by decide +kernel
theorem dL_isSo_683 : decode cL_isSo 683 = .ok (.bipush 7, 2) := by decide +kernel
theorem dL_isSo_685 : decode cL_isSo 685 = .ok (.iaload, 1) := by decide +kernel
theorem dL_isSo_686 : decode cL_isSo 686 = .ok (.iconst 0, 1) := by decide +kernel
theorem dL_isSo_687 : decode cL_isSo 687 = .ok (.invokestatic 115, 3) := by decide +kernel
theorem dL_isSo_690 : decode cL_isSo 690 = .ok (.ldc 35, 2) := by decide +kernel
theorem dL_isSo_692 : decode cL_isSo 692 = .ok (.if_icmp .ne 21, 3) := by decide +kernel
theorem dL_isSo_695 : decode cL_isSo 695 = .ok (.aload_n 0, 1) := by decide +kernel
theorem dL_isSo_696 : decode cL_isSo 696 = .ok (.aload_n 1, 1) := by decide +kernel
theorem dL_isSo_697 : decode cL_isSo 697 = .ok (.bipush 8, 2) := by decide +kernel
theorem dL_isSo_699 : decode cL_isSo 699 = .ok (.iaload, 1) := by decide +kernel
theorem dL_isSo_700 : decode cL_isSo 700 = .ok (.iconst 0, 1) := by decide +kernel
theorem dL_isSo_701 : decode cL_isSo 701 = .ok (.invokestatic 121, 3) := by decide +kernel
theorem dL_isSo_704 : decode cL_isSo 704 = .ok (.ldc 35, 2) := by decide +kernel
theorem dL_isSo_706 : decode cL_isSo 706 = .ok (.if_icmp .ne 7, 3) := by decide +kernel
theorem dL_isSo_709 : decode cL_isSo 709 = .ok (.iconst 1, 1) := by decide +kernel
theorem dL_isSo_710 : decode cL_isSo 710 = .ok (.goto 4, 3) := by decide +kernel
theorem dL_isSo_713 : decode cL_isSo 713 = .ok (.iconst 0, 1) := by decide +kernel
theorem dL_isSo_714 : decode cL_isSo 714 = .ok (.ireturn, 1) := by decide +kernel
theorem dL_law_0 : decode cL_law 0 = .ok (.new 57, 3) := by decide +kernel
theorem dL_law_3 : decode cL_law 3 = .ok (.dup, 1) := by decide +kernel
theorem dL_law_4 : decode cL_law 4 = .ok (.invokespecial 140, 3) := by decide +kernel
theorem dL_law_7 : decode cL_law 7 = .ok (.astore_n 1, 1) := by decide +kernel
theorem dL_law_8 : decode cL_law 8 = .ok (.bipush 13, 2) := by decide +kernel
theorem dL_law_10 : decode cL_law 10 = .ok (.newarray .int, 2) := by decide +kernel
theorem dL_law_12 : decode cL_law 12 = .ok (.astore_n 2, 1) := by decide +kernel
theorem dL_law_13 : decode cL_law 13 = .ok (.bipush 64, 2) := by decide +kernel
theorem dL_law_15 : decode cL_law 15 = .ok (.newarray .int, 2) := by decide +kernel
theorem dL_law_17 : decode cL_law 17 = .ok (.astore_n 3, 1) := by decide +kernel
theorem dL_law_18 : decode cL_law 18 = .ok (.bipush 32, 2) := by decide +kernel
theorem dL_law_20 : decode cL_law 20 = .ok (.newarray .int, 2) := by decide +kernel
theorem dL_law_22 : decode cL_law 22 = .ok (.astore 4, 2) := by decide +kernel
theorem dL_law_24 : decode cL_law 24 = .ok (.bipush 14, 2) := by decide +kernel
theorem dL_law_26 : decode cL_law 26 = .ok (.newarray .int, 2) := by decide +kernel
theorem dL_law_28 : decode cL_law 28 = .ok (.astore 5, 2) := by decide +kernel
theorem dL_law_30 : decode cL_law 30 = .ok (.aload_n 2, 1) := by decide +kernel
theorem dL_law_31 : decode cL_law 31 = .ok (.invokestatic 141, 3) := by decide +kernel
theorem dL_law_34 : decode cL_law 34 = .ok (.aload_n 1, 1) := by decide +kernel
theorem dL_law_35 : decode cL_law 35 = .ok (.aload_n 2, 1) := by decide +kernel
theorem dL_law_36 : decode cL_law 36 = .ok (.aload_n 3, 1) := by decide +kernel
theorem dL_law_37 : decode cL_law 37 = .ok (.aload 4, 2) := by decide +kernel
theorem dL_law_39 : decode cL_law 39 = .ok (.aload 5, 2) := by decide +kernel
theorem dL_law_41 : decode cL_law 41 = .ok (.invokestatic 145, 3) := by decide +kernel
theorem dL_law_44 : decode cL_law 44 = .ok (.istore 6, 2) := by decide +kernel
theorem dL_law_46 : decode cL_law 46 = .ok (.iconst 0, 1) := by decide +kernel
theorem dL_law_47 : decode cL_law 47 = .ok (.istore 7, 2) := by decide +kernel
theorem dL_law_49 : decode cL_law 49 = .ok (.iload 7, 2) := by decide +kernel
theorem dL_law_51 : decode cL_law 51 = .ok (.bipush 6, 2) := by decide +kernel
theorem dL_law_53 : decode cL_law 53 = .ok (.if_icmp .ge 59, 3) := by decide +kernel
theorem dL_law_56 : decode cL_law 56 = .ok (.iload 6, 2) := by decide +kernel
theorem dL_law_58 : decode cL_law 58 = .ok (.ifCond .eq 54, 3) := by decide +kernel
theorem dL_law_61 : decode cL_law 61 = .ok (.aload_n 1, 1) := by decide +kernel
theorem dL_law_62 : decode cL_law 62 = .ok (.aload_n 2, 1) := by decide +kernel
theorem dL_law_63 : decode cL_law 63 = .ok (.aload_n 3, 1) := by decide +kernel
theorem dL_law_64 : decode cL_law 64 = .ok (.aload 4, 2) := by decide +kernel
theorem dL_law_66 : decode cL_law 66 = .ok (.aload 5, 2) := by decide +kernel
theorem dL_law_68 : decode cL_law 68 = .ok (.aload_n 0, 1) := by decide +kernel
theorem dL_law_69 : decode cL_law 69 = .ok (.iconst 1, 1) := by decide +kernel
theorem dL_law_70 : decode cL_law 70 = .ok (.iload 7, 2) := by decide +kernel
theorem dL_law_72 : decode cL_law 72 = .ok (.iadd, 1) := by decide +kernel
theorem dL_law_73 : decode cL_law 73 = .ok (.invokestatic 149, 3) := by decide +kernel
theorem dL_law_76 : decode cL_law 76 = .ok (.ldc 8, 2) := by decide +kernel
theorem dL_law_78 : decode cL_law 78 = .ok (.iand, 1) := by decide +kernel
theorem dL_law_79 : decode cL_law 79 = .ok (.sipush 640, 3) := by decide +kernel
theorem dL_law_82 : decode cL_law 82 = .ok (.idiv, 1) := by decide +kernel
theorem dL_law_83 : decode cL_law 83 = .ok (.sipush 640, 3) := by decide +kernel
theorem dL_law_86 : decode cL_law 86 = .ok (.imul, 1) := by decide +kernel
theorem dL_law_87 : decode cL_law 87 = .ok (.iload 7, 2) := by decide +kernel
theorem dL_law_89 : decode cL_law 89 = .ok (.iconst 5, 1) := by decide +kernel
theorem dL_law_90 : decode cL_law 90 = .ok (.if_icmp .ge 8, 3) := by decide +kernel
theorem dL_law_93 : decode cL_law 93 = .ok (.bipush 13, 2) := by decide +kernel
theorem dL_law_95 : decode cL_law 95 = .ok (.goto 5, 3) := by decide +kernel
theorem dL_law_98 : decode cL_law 98 = .ok (.bipush 6, 2) := by decide +kernel
theorem dL_law_100 : decode cL_law 100 = .ok (.iadd, 1) := by decide +kernel
theorem dL_law_101 : decode cL_law 101 = .ok (.invokestatic 153, 3) := by decide +kernel
theorem dL_law_104 : decode cL_law 104 = .ok (.istore 6, 2) := by decide +kernel
theorem dL_law_106 : decode cL_law 106 = .ok (.iinc 7 1, 3) := by decide +kernel
theorem dL_law_109 : decode cL_law 109 = .ok (.goto (-60), 3) := by decide +kernel
theorem dL_law_112 : decode cL_law 112 = .ok (.bipush 8, 2) := by decide +kernel
theorem dL_law_114 : decode cL_law 114 = .ok (.aload_n 0, 1) := by decide +kernel
theorem dL_law_115 : decode cL_law 115 = .ok (.iconst 0, 1) := by decide +kernel
theorem dL_law_116 : decode cL_law 116 = .ok (.invokestatic 149, 3) := by decide +kernel
theorem dL_law_119 : decode cL_law 119 = .ok (.bipush 52, 2) := by decide +kernel
theorem dL_law_121 : decode cL_law 121 = .ok (.invokestatic 24, 3) := by decide +kernel
theorem dL_law_124 : decode cL_law 124 = .ok (.iadd, 1) := by decide +kernel
theorem dL_law_125 : decode cL_law 125 = .ok (.istore 7, 2) := by decide +kernel
theorem dL_law_127 : decode cL_law 127 = .ok (.iconst 0, 1) := by decide +kernel
theorem dL_law_128 : decode cL_law 128 = .ok (.istore 8, 2) := by decide +kernel
theorem dL_law_130 : decode cL_law 130 = .ok (.iload 8, 2) := by decide +kernel
theorem dL_law_132 : decode cL_law 132 = .ok (.iload 7, 2) := by decide +kernel
theorem dL_law_134 : decode cL_law 134 = .ok (.if_icmp .ge 83, 3) := by decide +kernel
theorem dL_law_137 : decode cL_law 137 = .ok (.iload 6, 2) := by decide +kernel
theorem dL_law_139 : decode cL_law 139 = .ok (.ifCond .eq 78, 3) := by decide +kernel
theorem dL_law_142 : decode cL_law 142 = .ok (.aload_n 1, 1) := by decide +kernel
theorem dL_law_143 : decode cL_law 143 = .ok (.aload_n 2, 1) := by decide +kernel
theorem dL_law_144 : decode cL_law 144 = .ok (.aload_n 3, 1) := by decide +kernel
theorem dL_law_145 : decode cL_law 145 = .ok (.aload 4, 2) := by decide +kernel
theorem dL_law_147 : decode cL_law 147 = .ok (.aload 5, 2) := by decide +kernel
theorem dL_law_149 : decode cL_law 149 = .ok (.aload_n 0, 1) := by decide +kernel
theorem dL_law_150 : decode cL_law 150 = .ok (.bipush 7, 2) := by decide +kernel
theorem dL_law_152 : decode cL_law 152 = .ok (.iload 8, 2) := by decide +kernel
theorem dL_law_154 : decode cL_law 154 = .ok (.iadd, 1) := by decide +kernel
theorem dL_law_155 : decode cL_law 155 = .ok (.invokestatic 149, 3) := by decide +kernel
theorem dL_law_158 : decode cL_law 158 = .ok (.sipush 7919, 3) := by decide +kernel
theorem dL_law_161 : decode cL_law 161 = .ok (.iload 8, 2) := by decide +kernel
theorem dL_law_163 : decode cL_law 163 = .ok (.imul, 1) := by decide +kernel
theorem dL_law_164 : decode cL_law 164 = .ok (.ixor, 1) := by decide +kernel
theorem dL_law_165 : decode cL_law 165 = .ok (.invokestatic 153, 3) := by decide +kernel
theorem dL_law_168 : decode cL_law 168 = .ok (.ifCond .eq 40, 3) := by decide +kernel
theorem dL_law_171 : decode cL_law 171 = .ok (.iload 8, 2) := by decide +kernel
theorem dL_law_173 : decode cL_law 173 = .ok (.bipush 7, 2) := by decide +kernel
theorem dL_law_175 : decode cL_law 175 = .ok (.irem, 1) := by decide +kernel
theorem dL_law_176 : decode cL_law 176 = .ok (.iconst 3, 1) := by decide +kernel
theorem dL_law_177 : decode cL_law 177 = .ok (.if_icmp .ne 14, 3) := by decide +kernel
theorem dL_law_180 : decode cL_law 180 = .ok (.aload_n 1, 1) := by decide +kernel
theorem dL_law_181 : decode cL_law 181 = .ok (.aload_n 2, 1) := by decide +kernel
theorem dL_law_182 : decode cL_law 182 = .ok (.aload_n 3, 1) := by decide +kernel
theorem dL_law_183 : decode cL_law 183 = .ok (.aload 4, 2) := by decide +kernel
theorem dL_law_185 : decode cL_law 185 = .ok (.invokestatic 157, 3) := by decide +kernel
theorem dL_law_188 : decode cL_law 188 = .ok (.ifCond .eq 20, 3) := by decide +kernel
theorem dL_law_191 : decode cL_law 191 = .ok (.aload_n 1, 1) := by decide +kernel
theorem dL_law_192 : decode cL_law 192 = .ok (.aload_n 2, 1) := by decide +kernel
theorem dL_law_193 : decode cL_law 193 = .ok (.aload_n 3, 1) := by decide +kernel
theorem dL_law_194 : decode cL_law 194 = .ok (.aload 4, 2) := by decide +kernel
theorem dL_law_196 : decode cL_law 196 = .ok (.aload 5, 2) := by decide +kernel
theorem dL_law_198 : decode cL_law 198 = .ok (.invokestatic 145, 3) := by decide +kernel
theorem dL_law_201 : decode cL_law 201 = .ok (.ifCond .eq 7, 3) := by decide +kernel
theorem dL_law_204 : decode cL_law 204 = .ok (.iconst 1, 1) := by decide +kernel
theorem dL_law_205 : decode cL_law 205 = .ok (.goto 4, 3) := by decide +kernel
theorem dL_law_208 : decode cL_law 208 = .ok (.iconst 0, 1) := by decide +kernel
theorem dL_law_209 : decode cL_law 209 = .ok (.istore 6, 2) := by decide +kernel
theorem dL_law_211 : decode cL_law 211 = .ok (.iinc 8 1, 3) := by decide +kernel
theorem dL_law_214 : decode cL_law 214 = .ok (.goto (-84), 3) := by decide +kernel
theorem dL_law_217 : decode cL_law 217 = .ok (.iload 6, 2) := by decide +kernel
theorem dL_law_219 : decode cL_law 219 = .ok (.ifCond .eq 31, 3) := by decide +kernel
theorem dL_law_222 : decode cL_law 222 = .ok (.aload_n 1, 1) := by decide +kernel
theorem dL_law_223 : decode cL_law 223 = .ok (.bipush 12, 2) := by decide +kernel
theorem dL_law_225 : decode cL_law 225 = .ok (.invokestatic 133, 3) := by decide +kernel
theorem dL_law_228 : decode cL_law 228 = .ok (.ldc 44, 2) := by decide +kernel
theorem dL_law_230 : decode cL_law 230 = .ok (.if_icmp .ne 20, 3) := by decide +kernel
theorem dL_law_233 : decode cL_law 233 = .ok (.aload_n 1, 1) := by decide +kernel
theorem dL_law_234 : decode cL_law 234 = .ok (.iconst 0, 1) := by decide +kernel
theorem dL_law_235 : decode cL_law 235 = .ok (.aload_n 2, 1) := by decide +kernel
theorem dL_law_236 : decode cL_law 236 = .ok (.iconst 0, 1) := by decide +kernel
theorem dL_law_237 : decode cL_law 237 = .ok (.iaload, 1) := by decide +kernel
theorem dL_law_238 : decode cL_law 238 = .ok (.invokestatic 127, 3) := by decide +kernel
theorem dL_law_241 : decode cL_law 241 = .ok (.ldc 35, 2) := by decide +kernel
theorem dL_law_243 : decode cL_law 243 = .ok (.if_icmp .ne 7, 3) := by decide +kernel
theorem dL_law_246 : decode cL_law 246 = .ok (.iconst 1, 1) := by decide +kernel
theorem dL_law_247 : decode cL_law 247 = .ok (.goto 4, 3) := by decide +kernel
theorem dL_law_250 : decode cL_law 250 = .ok (.iconst 0, 1) := by decide +kernel
theorem dL_law_251 : decode cL_law 251 = .ok (.ireturn, 1) := by decide +kernel
