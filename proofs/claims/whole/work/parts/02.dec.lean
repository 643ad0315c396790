theorem dX0_init_0 : decode cX0_init 0 = .ok (.aload_n 0, 1) := by decide +kernel
theorem dX0_init_1 : decode cX0_init 1 = .ok (.invokespecial 3, 3) := by decide +kernel
theorem dX0_init_4 : decode cX0_init 4 = .ok (.return_, 1) := by decide +kernel
theorem dX0_hang_0 : decode cX0_hang 0 = .ok (.aload_n 0, 1) := by decide +kernel
theorem dX0_hang_1 : decode cX0_hang 1 = .ok (.iload_n 1, 1) := by decide +kernel
theorem dX0_hang_2 : decode cX0_hang 2 = .ok (.putfield 9, 3) := by decide +kernel
theorem dX0_hang_5 : decode cX0_hang 5 = .ok (.aload_n 0, 1) := by decide +kernel
theorem dX0_hang_6 : decode cX0_hang 6 = .ok (.iload_n 2, 1) := by decide +kernel
theorem dX0_hang_7 : decode cX0_hang 7 = .ok (.putfield 15, 3) := by decide +kernel
theorem dX0_hang_10 : decode cX0_hang 10 = .ok (.aload_n 0, 1) := by decide +kernel
theorem dX0_hang_11 : decode cX0_hang 11 = .ok (.iload_n 3, 1) := by decide +kernel
theorem dX0_hang_12 : decode cX0_hang 12 = .ok (.putfield 18, 3) := by decide +kernel
theorem dX0_hang_15 : decode cX0_hang 15 = .ok (.aload_n 0, 1) := by decide +kernel
theorem dX0_hang_16 : decode cX0_hang 16 = .ok (.iload 4, 2) := by decide +kernel
theorem dX0_hang_18 : decode cX0_hang 18 = .ok (.putfield 21, 3) := by decide +kernel
theorem dX0_hang_21 : decode cX0_hang 21 = .ok (.aload_n 0, 1) := by decide +kernel
theorem dX0_hang_22 : decode cX0_hang 22 = .ok (.iconst (-1), 1) := by decide +kernel
theorem dX0_hang_23 : decode cX0_hang 23 = .ok (.putfield 25, 3) := by decide +kernel
theorem dX0_hang_26 : decode cX0_hang 26 = .ok (.aload_n 0, 1) := by decide +kernel
theorem dX0_hang_27 : decode cX0_hang 27 = .ok (.iconst (-1), 1) := by decide +kernel
theorem dX0_hang_28 : decode cX0_hang 28 = .ok (.putfield 28, 3) := by decide +kernel
theorem dX0_hang_31 : decode cX0_hang 31 = .ok (.aload_n 0, 1) := by decide +kernel
theorem dX0_hang_32 : decode cX0_hang 32 = .ok (.invokevirtual 31, 3) := by decide +kernel
theorem dX0_hang_35 : decode cX0_hang 35 = .ok (.return_, 1) := by decide +kernel
theorem dX0_waitAgain_0 : decode cX0_waitAgain 0 = .ok (.aload_n 0, 1) := by decide +kernel
theorem dX0_waitAgain_1 : decode cX0_waitAgain 1 = .ok (.iconst 0, 1) := by decide +kernel
theorem dX0_waitAgain_2 : decode cX0_waitAgain 2 = .ok (.putfield 34, 3) := by decide +kernel
theorem dX0_waitAgain_5 : decode cX0_waitAgain 5 = .ok (.aload_n 0, 1) := by decide +kernel
theorem dX0_waitAgain_6 : decode cX0_waitAgain 6 = .ok (.iconst (-1), 1) := by decide +kernel
theorem dX0_waitAgain_7 : decode cX0_waitAgain 7 = .ok (.putfield 37, 3) := by decide +kernel
theorem dX0_waitAgain_10 : decode cX0_waitAgain 10 = .ok (.return_, 1) := by decide +kernel
theorem dX0_copyFrom_0 : decode cX0_copyFrom 0 = .ok (.aload_n 0, 1) := by decide +kernel
theorem dX0_copyFrom_1 : decode cX0_copyFrom 1 = .ok (.aload_n 1, 1) := by decide +kernel
theorem dX0_copyFrom_2 : decode cX0_copyFrom 2 = .ok (.getfield 9, 3) := by decide +kernel
theorem dX0_copyFrom_5 : decode cX0_copyFrom 5 = .ok (.putfield 9, 3) := by decide +kernel
theorem dX0_copyFrom_8 : decode cX0_copyFrom 8 = .ok (.aload_n 0, 1) := by decide +kernel
theorem dX0_copyFrom_9 : decode cX0_copyFrom 9 = .ok (.aload_n 1, 1) := by decide +kernel
theorem dX0_copyFrom_10 : decode cX0_copyFrom 10 = .ok (.getfield 15, 3) := by decide +kernel
theorem dX0_copyFrom_13 : decode cX0_copyFrom 13 = .ok (.putfield 15, 3) := by decide +kernel
theorem dX0_copyFrom_16 : decode cX0_copyFrom 16 = .ok (.aload_n 0, 1) := by decide +kernel
theorem dX0_copyFrom_17 : decode cX0_copyFrom 17 = .ok (.aload_n 1, 1) := by decide +kernel
theorem dX0_copyFrom_18 : decode cX0_copyFrom 18 = .ok (.getfield 18, 3) := by decide +kernel
theorem dX0_copyFrom_21 : decode cX0_copyFrom 21 = .ok (.putfield 18, 3) := by decide +kernel
theorem dX0_copyFrom_24 : decode cX0_copyFrom 24 = .ok (.aload_n 0, 1) := by decide +kernel
theorem dX0_copyFrom_25 : decode cX0_copyFrom 25 = .ok (.aload_n 1, 1) := by decide +kernel
theorem dX0_copyFrom_26 : decode cX0_copyFrom 26 = .ok (.getfield 21, 3) := by decide +kernel
theorem dX0_copyFrom_29 : decode cX0_copyFrom 29 = .ok (.putfield 21, 3) := by decide +kernel
theorem dX0_copyFrom_32 : decode cX0_copyFrom 32 = .ok (.aload_n 0, 1) := by decide +kernel
theorem dX0_copyFrom_33 : decode cX0_copyFrom 33 = .ok (.aload_n 1, 1) := by decide +kernel
theorem dX0_copyFrom_34 : decode cX0_copyFrom 34 = .ok (.getfield 34, 3) := by decide +kernel
theorem dX0_copyFrom_37 : decode cX0_copyFrom 37 = .ok (.putfield 34, 3) := by decide +kernel
theorem dX0_copyFrom_40 : decode cX0_copyFrom 40 = .ok (.aload_n 0, 1) := by decide +kernel
theorem dX0_copyFrom_41 : decode cX0_copyFrom 41 = .ok (.aload_n 1, 1) := by decide +kernel
theorem dX0_copyFrom_42 : decode cX0_copyFrom 42 = .ok (.getfield 37, 3) := by decide +kernel
theorem dX0_copyFrom_45 : decode cX0_copyFrom 45 = .ok (.putfield 37, 3) := by decide +kernel
theorem dX0_copyFrom_48 : decode cX0_copyFrom 48 = .ok (.aload_n 0, 1) := by decide +kernel
theorem dX0_copyFrom_49 : decode cX0_copyFrom 49 = .ok (.aload_n 1, 1) := by decide +kernel
theorem dX0_copyFrom_50 : decode cX0_copyFrom 50 = .ok (.getfield 25, 3) := by decide +kernel
theorem dX0_copyFrom_53 : decode cX0_copyFrom 53 = .ok (.putfield 25, 3) := by decide +kernel
theorem dX0_copyFrom_56 : decode cX0_copyFrom 56 = .ok (.aload_n 0, 1) := by decide +kernel
theorem dX0_copyFrom_57 : decode cX0_copyFrom 57 = .ok (.aload_n 1, 1) := by decide +kernel
theorem dX0_copyFrom_58 : decode cX0_copyFrom 58 = .ok (.getfield 28, 3) := by decide +kernel
theorem dX0_copyFrom_61 : decode cX0_copyFrom 61 = .ok (.putfield 28, 3) := by decide +kernel
theorem dX0_copyFrom_64 : decode cX0_copyFrom 64 = .ok (.return_, 1) := by decide +kernel
theorem dX0_rank_0 : decode cX0_rank 0 = .ok (.aload_n 0, 1) := by decide +kernel
theorem dX0_rank_1 : decode cX0_rank 1 = .ok (.getfield 21, 3) := by decide +kernel
theorem dX0_rank_4 : decode cX0_rank 4 = .ok (.ifCond .eq 12, 3) := by decide +kernel
theorem dX0_rank_7 : decode cX0_rank 7 = .ok (.aload_n 0, 1) := by decide +kernel
theorem dX0_rank_8 : decode cX0_rank 8 = .ok (.getfield 18, 3) := by decide +kernel
theorem dX0_rank_11 : decode cX0_rank 11 = .ok (.iconst 3, 1) := by decide +kernel
theorem dX0_rank_12 : decode cX0_rank 12 = .ok (.iadd, 1) := by decide +kernel
theorem dX0_rank_13 : decode cX0_rank 13 = .ok (.goto 7, 3) := by decide +kernel
theorem dX0_rank_16 : decode cX0_rank 16 = .ok (.aload_n 0, 1) := by decide +kernel
theorem dX0_rank_17 : decode cX0_rank 17 = .ok (.getfield 18, 3) := by decide +kernel
theorem dX0_rank_20 : decode cX0_rank 20 = .ok (.ireturn, 1) := by decide +kernel
theorem dX0_fact_0 : decode cX0_fact 0 = .ok (.iload_n 1, 1) := by decide +kernel
theorem dX0_fact_1 : decode cX0_fact 1 = .ok (.tableswitch 95 0 7 #[47, 52, 57, 62, 75, 80, 85, 90], 47) := by decide +kernel
theorem dX0_fact_48 : decode cX0_fact 48 = .ok (.aload_n 0, 1) := by decide +kernel
theorem dX0_fact_49 : decode cX0_fact 49 = .ok (.getfield 9, 3) := by decide +kernel
theorem dX0_fact_52 : decode cX0_fact 52 = .ok (.ireturn, 1) := by decide +kernel
theorem dX0_fact_53 : decode cX0_fact 53 = .ok (.aload_n 0, 1) := by decide +kernel
theorem dX0_fact_54 : decode cX0_fact 54 = .ok (.getfield 15, 3) := by decide +kernel
theorem dX0_fact_57 : decode cX0_fact 57 = .ok (.ireturn, 1) := by decide +kernel
theorem dX0_fact_58 : decode cX0_fact 58 = .ok (.aload_n 0, 1) := by decide +kernel
theorem dX0_fact_59 : decode cX0_fact 59 = .ok (.getfield 18, 3) := by decide +kernel
theorem dX0_fact_62 : decode cX0_fact 62 = .ok (.ireturn, 1) := by decide +kernel
theorem dX0_fact_63 : decode cX0_fact 63 = .ok (.aload_n 0, 1) := by decide +kernel
theorem dX0_fact_64 : decode cX0_fact 64 = .ok (.getfield 21, 3) := by decide +kernel
theorem dX0_fact_67 : decode cX0_fact 67 = .ok (.ifCond .eq 7, 3) := by decide +kernel
theorem dX0_fact_70 : decode cX0_fact 70 = .ok (.iconst 1, 1) := by decide +kernel
theorem dX0_fact_71 : decode cX0_fact 71 = .ok (.goto 4, 3) := by decide +kernel
theorem dX0_fact_74 : decode cX0_fact 74 = .ok (.iconst 0, 1) := by decide +kernel
theorem dX0_fact_75 : decode cX0_fact 75 = .ok (.ireturn, 1) := by decide +kernel
theorem dX0_fact_76 : decode cX0_fact 76 = .ok (.aload_n 0, 1) := by decide +kernel
theorem dX0_fact_77 : decode cX0_fact 77 = .ok (.invokevirtual 40, 3) := by decide +kernel
theorem dX0_fact_80 : decode cX0_fact 80 = .ok (.ireturn, 1) := by decide +kernel
theorem dX0_fact_81 : decode cX0_fact 81 = .ok (.aload_n 0, 1) := by decide +kernel
theorem dX0_fact_82 : decode cX0_fact 82 = .ok (.getfield 34, 3) := by decide +kernel
theorem dX0_fact_85 : decode cX0_fact 85 = .ok (.ireturn, 1) := by decide +kernel
theorem dX0_fact_86 : decode cX0_fact 86 = .ok (.aload_n 0, 1) := by decide +kernel
theorem dX0_fact_87 : decode cX0_fact 87 = .ok (.getfield 37, 3) := by decide +kernel
theorem dX0_fact_90 : decode cX0_fact 90 = .ok (.ireturn, 1) := by decide +kernel
theorem dX0_fact_91 : decode cX0_fact 91 = .ok (.aload_n 0, 1) := by decide +kernel
theorem dX0_fact_92 : decode cX0_fact 92 = .ok (.getfield 25, 3) := by decide +kernel
theorem dX0_fact_95 : decode cX0_fact 95 = .ok (.ireturn, 1) := by decide +kernel
theorem dX0_fact_96 : decode cX0_fact 96 = .ok (.aload_n 0, 1) := by decide +kernel
theorem dX0_fact_97 : decode cX0_fact 97 = .ok (.getfield 28, 3) := by decide +kernel
theorem dX0_fact_100 : decode cX0_fact 100 = .ok (.ireturn, 1) := by decide +kernel
theorem dX1_init_0 : decode cX1_init 0 = .ok (.aload_n 0, 1) := by decide +kernel
theorem dX1_init_1 : decode cX1_init 1 = .ok (.invokespecial 3, 3) := by decide +kernel
theorem dX1_init_4 : decode cX1_init 4 = .ok (.aload_n 0, 1) := by decide +kernel
theorem dX1_init_5 : decode cX1_init 5 = .ok (.bipush 6, 2) := by decide +kernel
theorem dX1_init_7 : decode cX1_init 7 = .ok (.newarray .int, 2) := by decide +kernel
theorem dX1_init_9 : decode cX1_init 9 = .ok (.putfield 9, 3) := by decide +kernel
theorem dX1_init_12 : decode cX1_init 12 = .ok (.aload_n 0, 1) := by decide +kernel
theorem dX1_init_13 : decode cX1_init 13 = .ok (.bipush 14, 2) := by decide +kernel
theorem dX1_init_15 : decode cX1_init 15 = .ok (.anewarray 15, 3) := by decide +kernel
theorem dX1_init_18 : decode cX1_init 18 = .ok (.putfield 17, 3) := by decide +kernel
theorem dX1_init_21 : decode cX1_init 21 = .ok (.iconst 0, 1) := by decide +kernel
theorem dX1_init_22 : decode cX1_init 22 = .ok (.istore_n 1, 1) := by decide +kernel
theorem dX1_init_23 : decode cX1_init 23 = .ok (.iload_n 1, 1) := by decide +kernel
theorem dX1_init_24 : decode cX1_init 24 = .ok (.aload_n 0, 1) := by decide +kernel
theorem dX1_init_25 : decode cX1_init 25 = .ok (.getfield 17, 3) := by decide +kernel
theorem dX1_init_28 : decode cX1_init 28 = .ok (.arraylength, 1) := by decide +kernel
theorem dX1_init_29 : decode cX1_init 29 = .ok (.if_icmp .ge 22, 3) := by decide +kernel
theorem dX1_init_32 : decode cX1_init 32 = .ok (.aload_n 0, 1) := by decide +kernel
theorem dX1_init_33 : decode cX1_init 33 = .ok (.getfield 17, 3) := by decide +kernel
theorem dX1_init_36 : decode cX1_init 36 = .ok (.iload_n 1, 1) := by decide +kernel
theorem dX1_init_37 : decode cX1_init 37 = .ok (.new 15, 3) := by decide +kernel
theorem dX1_init_40 : decode cX1_init 40 = .ok (.dup, 1) := by decide +kernel
theorem dX1_init_41 : decode cX1_init 41 = .ok (.invokespecial 21, 3) := by decide +kernel
theorem dX1_init_44 : decode cX1_init 44 = .ok (.aastore, 1) := by decide +kernel
theorem dX1_init_45 : decode cX1_init 45 = .ok (.iinc 1 1, 3) := by decide +kernel
theorem dX1_init_48 : decode cX1_init 48 = .ok (.goto (-25), 3) := by decide +kernel
theorem dX1_init_51 : decode cX1_init 51 = .ok (.aload_n 0, 1) := by decide +kernel
theorem dX1_init_52 : decode cX1_init 52 = .ok (.iconst 4, 1) := by decide +kernel
theorem dX1_init_53 : decode cX1_init 53 = .ok (.anewarray 22, 3) := by decide +kernel
theorem dX1_init_56 : decode cX1_init 56 = .ok (.putfield 24, 3) := by decide +kernel
theorem dX1_init_59 : decode cX1_init 59 = .ok (.iconst 0, 1) := by decide +kernel
theorem dX1_init_60 : decode cX1_init 60 = .ok (.istore_n 1, 1) := by decide +kernel
theorem dX1_init_61 : decode cX1_init 61 = .ok (.iload_n 1, 1) := by decide +kernel
theorem dX1_init_62 : decode cX1_init 62 = .ok (.aload_n 0, 1) := by decide +kernel
theorem dX1_init_63 : decode cX1_init 63 = .ok (.getfield 24, 3) := by decide +kernel
theorem dX1_init_66 : decode cX1_init 66 = .ok (.arraylength, 1) := by decide +kernel
theorem dX1_init_67 : decode cX1_init 67 = .ok (.if_icmp .ge 22, 3) := by decide +kernel
theorem dX1_init_70 : decode cX1_init 70 = .ok (.aload_n 0, 1) := by decide +kernel
theorem dX1_init_71 : decode cX1_init 71 = .ok (.getfield 24, 3) := by decide +kernel
theorem dX1_init_74 : decode cX1_init 74 = .ok (.iload_n 1, 1) := by decide +kernel
theorem dX1_init_75 : decode cX1_init 75 = .ok (.new 22, 3) := by decide +kernel
theorem dX1_init_78 : decode cX1_init 78 = .ok (.dup, 1) := by decide +kernel
theorem dX1_init_79 : decode cX1_init 79 = .ok (.invokespecial 28, 3) := by decide +kernel
theorem dX1_init_82 : decode cX1_init 82 = .ok (.aastore, 1) := by decide +kernel
theorem dX1_init_83 : decode cX1_init 83 = .ok (.iinc 1 1, 3) := by decide +kernel
theorem dX1_init_86 : decode cX1_init 86 = .ok (.goto (-25), 3) := by decide +kernel
theorem dX1_init_89 : decode cX1_init 89 = .ok (.aload_n 0, 1) := by decide +kernel
theorem dX1_init_90 : decode cX1_init 90 = .ok (.bipush 14, 2) := by decide +kernel
theorem dX1_init_92 : decode cX1_init 92 = .ok (.newarray .int, 2) := by decide +kernel
theorem dX1_init_94 : decode cX1_init 94 = .ok (.putfield 29, 3) := by decide +kernel
theorem dX1_init_97 : decode cX1_init 97 = .ok (.return_, 1) := by decide +kernel
theorem dX1_reset_0 : decode cX1_reset 0 = .ok (.aload_n 0, 1) := by decide +kernel
theorem dX1_reset_1 : decode cX1_reset 1 = .ok (.iload_n 1, 1) := by decide +kernel
theorem dX1_reset_2 : decode cX1_reset 2 = .ok (.putfield 32, 3) := by decide +kernel
theorem dX1_reset_5 : decode cX1_reset 5 = .ok (.aload_n 0, 1) := by decide +kernel
theorem dX1_reset_6 : decode cX1_reset 6 = .ok (.iconst 0, 1) := by decide +kernel
theorem dX1_reset_7 : decode cX1_reset 7 = .ok (.putfield 36, 3) := by decide +kernel
theorem dX1_reset_10 : decode cX1_reset 10 = .ok (.aload_n 0, 1) := by decide +kernel
theorem dX1_reset_11 : decode cX1_reset 11 = .ok (.iconst 0, 1) := by decide +kernel
theorem dX1_reset_12 : decode cX1_reset 12 = .ok (.putfield 39, 3) := by decide +kernel
theorem dX1_reset_15 : decode cX1_reset 15 = .ok (.aload_n 0, 1) := by decide +kernel
theorem dX1_reset_16 : decode cX1_reset 16 = .ok (.iconst 0, 1) := by decide +kernel
theorem dX1_reset_17 : decode cX1_reset 17 = .ok (.putfield 42, 3) := by decide +kernel
theorem dX1_reset_20 : decode cX1_reset 20 = .ok (.aload_n 0, 1) := by decide +kernel
theorem dX1_reset_21 : decode cX1_reset 21 = .ok (.iconst 0, 1) := by decide +kernel
theorem dX1_reset_22 : decode cX1_reset 22 = .ok (.putfield 45, 3) := by decide +kernel
theorem dX1_reset_25 : decode cX1_reset 25 = .ok (.aload_n 0, 1) := by decide +kernel
theorem dX1_reset_26 : decode cX1_reset 26 = .ok (.iconst 0, 1) := by decide +kernel
theorem dX1_reset_27 : decode cX1_reset 27 = .ok (.putfield 48, 3) := by decide +kernel
theorem dX1_reset_30 : decode cX1_reset 30 = .ok (.aload_n 0, 1) := by decide +kernel
theorem dX1_reset_31 : decode cX1_reset 31 = .ok (.iconst 0, 1) := by decide +kernel
theorem dX1_reset_32 : decode cX1_reset 32 = .ok (.putfield 51, 3) := by decide +kernel
theorem dX1_reset_35 : decode cX1_reset 35 = .ok (.iconst 0, 1) := by decide +kernel
theorem dX1_reset_36 : decode cX1_reset 36 = .ok (.istore_n 2, 1) := by decide +kernel
theorem dX1_reset_37 : decode cX1_reset 37 = .ok (.iload_n 2, 1) := by decide +kernel
theorem dX1_reset_38 : decode cX1_reset 38 = .ok (.aload_n 0, 1) := by decide +kernel
theorem dX1_reset_39 : decode cX1_reset 39 = .ok (.getfield 9, 3) := by decide +kernel
theorem dX1_reset_42 : decode cX1_reset 42 = .ok (.arraylength, 1) := by decide +kernel
theorem dX1_reset_43 : decode cX1_reset 43 = .ok (.if_icmp .ge 16, 3) := by decide +kernel
theorem dX1_reset_46 : decode cX1_reset 46 = .ok (.aload_n 0, 1) := by decide +kernel
theorem dX1_reset_47 : decode cX1_reset 47 = .ok (.getfield 9, 3) := by decide +kernel
theorem dX1_reset_50 : decode cX1_reset 50 = .ok (.iload_n 2, 1) := by decide +kernel
theorem dX1_reset_51 : decode cX1_reset 51 = .ok (.iconst 4, 1) := by decide +kernel
theorem dX1_reset_52 : decode cX1_reset 52 = .ok (.iastore, 1) := by decide +kernel
theorem dX1_reset_53 : decode cX1_reset 53 = .ok (.iinc 2 1, 3) := by decide +kernel
theorem dX1_reset_56 : decode cX1_reset 56 = .ok (.goto (-19), 3) := by decide +kernel
theorem dX1_reset_59 : decode cX1_reset 59 = .ok (.return_, 1) := by decide +kernel
theorem dX1_copyFrom_0 : decode cX1_copyFrom 0 = .ok (.aload_n 0, 1) := by decide +kernel
theorem dX1_copyFrom_1 : decode cX1_copyFrom 1 = .ok (.aload_n 1, 1) := by decide +kernel
theorem dX1_copyFrom_2 : decode cX1_copyFrom 2 = .ok (.getfield 32, 3) := by decide +kernel
theorem dX1_copyFrom_5 : decode cX1_copyFrom 5 = .ok (.putfield 32, 3) := by decide +kernel
theorem dX1_copyFrom_8 : decode cX1_copyFrom 8 = .ok (.aload_n 0, 1) := by decide +kernel
theorem dX1_copyFrom_9 : decode cX1_copyFrom 9 = .ok (.aload_n 1, 1) := by decide +kernel
theorem dX1_copyFrom_10 : decode cX1_copyFrom 10 = .ok (.getfield 36, 3) := by decide +kernel
theorem dX1_copyFrom_13 : decode cX1_copyFrom 13 = .ok (.putfield 36, 3) := by decide +kernel
theorem dX1_copyFrom_16 : decode cX1_copyFrom 16 = .ok (.aload_n 0, 1) := by decide +kernel
theorem dX1_copyFrom_17 : decode cX1_copyFrom 17 = .ok (.aload_n 1, 1) := by decide +kernel
theorem dX1_copyFrom_18 : decode cX1_copyFrom 18 = .ok (.getfield 39, 3) := by decide +kernel
theorem dX1_copyFrom_21 : decode cX1_copyFrom 21 = .ok (.putfield 39, 3) := by decide +kernel
theorem dX1_copyFrom_24 : decode cX1_copyFrom 24 = .ok (.aload_n 0, 1) := by decide +kernel
theorem dX1_copyFrom_25 : decode cX1_copyFrom 25 = .ok (.aload_n 1, 1) := by decide +kernel
theorem dX1_copyFrom_26 : decode cX1_copyFrom 26 = .ok (.getfield 42, 3) := by decide +kernel
theorem dX1_copyFrom_29 : decode cX1_copyFrom 29 = .ok (.putfield 42, 3) := by decide +kernel
theorem dX1_copyFrom_32 : decode cX1_copyFrom 32 = .ok (.aload_n 0, 1) := by decide +kernel
theorem dX1_copyFrom_33 : decode cX1_copyFrom 33 = .ok (.aload_n 1, 1) := by decide +kernel
theorem dX1_copyFrom_34 : decode cX1_copyFrom 34 = .ok (.getfield 45, 3) := by decide +kernel
theorem dX1_copyFrom_37 : decode cX1_copyFrom 37 = .ok (.putfield 45, 3) := by decide +kernel
theorem dX1_copyFrom_40 : decode cX1_copyFrom 40 = .ok (.aload_n 0, 1) := by decide +kernel
theorem dX1_copyFrom_41 : decode cX1_copyFrom 41 = .ok (.aload_n 1, 1) := by decide +kernel
theorem dX1_copyFrom_42 : decode cX1_copyFrom 42 = .ok (.getfield 48, 3) := by decide +kernel
theorem dX1_copyFrom_45 : decode cX1_copyFrom 45 = .ok (.putfield 48, 3) := by decide +kernel
theorem dX1_copyFrom_48 : decode cX1_copyFrom 48 = .ok (.aload_n 0, 1) := by decide +kernel
theorem dX1_copyFrom_49 : decode cX1_copyFrom 49 = .ok (.aload_n 1, 1) := by decide +kernel
theorem dX1_copyFrom_50 : decode cX1_copyFrom 50 = .ok (.getfield 51, 3) := by decide +kernel
theorem dX1_copyFrom_53 : decode cX1_copyFrom 53 = .ok (.putfield 51, 3) := by decide +kernel
theorem dX1_copyFrom_56 : decode cX1_copyFrom 56 = .ok (.iconst 0, 1) := by decide +kernel
theorem dX1_copyFrom_57 : decode cX1_copyFrom 57 = .ok (.istore_n 2, 1) := by decide +kernel
theorem dX1_copyFrom_58 : decode cX1_copyFrom 58 = .ok (.iload_n 2, 1) := by decide +kernel
theorem dX1_copyFrom_59 : decode cX1_copyFrom 59 = .ok (.aload_n 0, 1) := by decide +kernel
theorem dX1_copyFrom_60 : decode cX1_copyFrom 60 = .ok (.getfield 9, 3) := by decide +kernel
theorem dX1_copyFrom_63 : decode cX1_copyFrom 63 = .ok (.arraylength, 1) := by decide +kernel
theorem dX1_copyFrom_64 : decode cX1_copyFrom 64 = .ok (.if_icmp .ge 30, 3) := by decide +kernel
theorem dX1_copyFrom_67 : decode cX1_copyFrom 67 = .ok (.iload_n 2, 1) := by decide +kernel
theorem dX1_copyFrom_68 : decode cX1_copyFrom 68 = .ok (.aload_n 1, 1) := by decide +kernel
theorem dX1_copyFrom_69 : decode cX1_copyFrom 69 = .ok (.getfield 9, 3) := by decide +kernel
theorem dX1_copyFrom_72 : decode cX1_copyFrom 72 = .ok (.arraylength, 1) := by decide +kernel
theorem dX1_copyFrom_73 : decode cX1_copyFrom 73 = .ok (.if_icmp .ge 21, 3) := by decide +kernel
theorem dX1_copyFrom_76 : decode cX1_copyFrom 76 = .ok (.aload_n 0, 1) := by decide +kernel
theorem dX1_copyFrom_77 : decode cX1_copyFrom 77 = .ok (.getfield 9, 3) := by decide +kernel
theorem dX1_copyFrom_80 : decode cX1_copyFrom 80 = .ok (.iload_n 2, 1) := by decide +kernel
theorem dX1_copyFrom_81 : decode cX1_copyFrom 81 = .ok (.aload_n 1, 1) := by decide +kernel
theorem dX1_copyFrom_82 : decode cX1_copyFrom 82 = .ok (.getfield 9, 3) := by decide +kernel
theorem dX1_copyFrom_85 : decode cX1_copyFrom 85 = .ok (.iload_n 2, 1) := by decide +kernel
theorem dX1_copyFrom_86 : decode cX1_copyFrom 86 = .ok (.iaload, 1) := by decide +kernel
theorem dX1_copyFrom_87 : decode cX1_copyFrom 87 = .ok (.iastore, 1) := by decide +kernel
theorem dX1_copyFrom_88 : decode cX1_copyFrom 88 = .ok (.iinc 2 1, 3) := by decide +kernel
theorem dX1_copyFrom_91 : decode cX1_copyFrom 91 = .ok (.goto (-33), 3) := by decide +kernel
theorem dX1_copyFrom_94 : decode cX1_copyFrom 94 = .ok (.iconst 0, 1) := by decide +kernel
theorem dX1_copyFrom_95 : decode cX1_copyFrom 95 = .ok (.istore_n 2, 1) := by decide +kernel
theorem dX1_copyFrom_96 : decode cX1_copyFrom 96 = .ok (.iload_n 2, 1) := by decide +kernel
theorem dX1_copyFrom_97 : decode cX1_copyFrom 97 = .ok (.aload_n 0, 1) := by decide +kernel
theorem dX1_copyFrom_98 : decode cX1_copyFrom 98 = .ok (.getfield 29, 3) := by decide +kernel
theorem dX1_copyFrom_101 : decode cX1_copyFrom 101 = .ok (.arraylength, 1) := by decide +kernel
theorem dX1_copyFrom_102 : decode cX1_copyFrom 102 = .ok (.if_icmp .ge 30, 3) := by decide +kernel
theorem dX1_copyFrom_105 : decode cX1_copyFrom 105 = .ok (.iload_n 2, 1) := by decide +kernel
theorem dX1_copyFrom_106 : decode cX1_copyFrom 106 = .ok (.aload_n 1, 1) := by decide +kernel
theorem dX1_copyFrom_107 : decode cX1_copyFrom 107 = .ok (.getfield 29, 3) := by decide +kernel
theorem dX1_copyFrom_110 : decode cX1_copyFrom 110 = .ok (.arraylength, 1) := by decide +kernel
theorem dX1_copyFrom_111 : decode cX1_copyFrom 111 = .ok (.if_icmp .ge 21, 3) := by decide +kernel
theorem dX1_copyFrom_114 : decode cX1_copyFrom 114 = .ok (.aload_n 0, 1) := by decide +kernel
theorem dX1_copyFrom_115 : decode cX1_copyFrom 115 = .ok (.getfield 29, 3) := by decide +kernel
theorem dX1_copyFrom_118 : decode cX1_copyFrom 118 = .ok (.iload_n 2, 1) := by decide +kernel
theorem dX1_copyFrom_119 : decode cX1_copyFrom 119 = .ok (.aload_n 1, 1) := by decide +kernel
theorem dX1_copyFrom_120 : decode cX1_copyFrom 120 = .ok (.getfield 29, 3) := by decide +kernel
theorem dX1_copyFrom_123 : decode cX1_copyFrom 123 = .ok (.iload_n 2, 1) := by decide +kernel
theorem dX1_copyFrom_124 : decode cX1_copyFrom 124 = .ok (.iaload, 1) := by decide +kernel
theorem dX1_copyFrom_125 : decode cX1_copyFrom 125 = .ok (.iastore, 1) := by decide +kernel
theorem dX1_copyFrom_126 : decode cX1_copyFrom 126 = .ok (.iinc 2 1, 3) := by decide +kernel
theorem dX1_copyFrom_129 : decode cX1_copyFrom 129 = .ok (.goto (-33), 3) := by decide +kernel
theorem dX1_copyFrom_132 : decode cX1_copyFrom 132 = .ok (.iconst 0, 1) := by decide +kernel
theorem dX1_copyFrom_133 : decode cX1_copyFrom 133 = .ok (.istore_n 2, 1) := by decide +kernel
theorem dX1_copyFrom_134 : decode cX1_copyFrom 134 = .ok (.iload_n 2, 1) := by decide +kernel
theorem dX1_copyFrom_135 : decode cX1_copyFrom 135 = .ok (.aload_n 0, 1) := by decide +kernel
theorem dX1_copyFrom_136 : decode cX1_copyFrom 136 = .ok (.getfield 39, 3) := by decide +kernel
theorem dX1_copyFrom_139 : decode cX1_copyFrom 139 = .ok (.if_icmp .ge 37, 3) := by decide +kernel
theorem dX1_copyFrom_142 : decode cX1_copyFrom 142 = .ok (.aload_n 0, 1) := by decide +kernel
theorem dX1_copyFrom_143 : decode cX1_copyFrom 143 = .ok (.iload_n 2, 1) := by decide +kernel
theorem dX1_copyFrom_144 : decode cX1_copyFrom 144 = .ok (.invokevirtual 54, 3) := by decide +kernel
theorem dX1_copyFrom_147 : decode cX1_copyFrom 147 = .ok (.astore_n 3, 1) := by decide +kernel
theorem dX1_copyFrom_148 : decode cX1_copyFrom 148 = .ok (.aload_n 1, 1) := by decide +kernel
theorem dX1_copyFrom_149 : decode cX1_copyFrom 149 = .ok (.iload_n 2, 1) := by decide +kernel
theorem dX1_copyFrom_150 : decode cX1_copyFrom 150 = .ok (.invokevirtual 54, 3) := by decide +kernel
theorem dX1_copyFrom_153 : decode cX1_copyFrom 153 = .ok (.astore 4, 2) := by decide +kernel
theorem dX1_copyFrom_155 : decode cX1_copyFrom 155 = .ok (.aload_n 3, 1) := by decide +kernel
theorem dX1_copyFrom_156 : decode cX1_copyFrom 156 = .ok (.ifnull 14, 3) := by decide +kernel
theorem dX1_copyFrom_159 : decode cX1_copyFrom 159 = .ok (.aload 4, 2) := by decide +kernel
theorem dX1_copyFrom_161 : decode cX1_copyFrom 161 = .ok (.ifnull 9, 3) := by decide +kernel
theorem dX1_copyFrom_164 : decode cX1_copyFrom 164 = .ok (.aload_n 3, 1) := by decide +kernel
theorem dX1_copyFrom_165 : decode cX1_copyFrom 165 = .ok (.aload 4, 2) := by decide +kernel
theorem dX1_copyFrom_167 : decode cX1_copyFrom 167 = .ok (.invokevirtual 58, 3) := by decide +kernel
theorem dX1_copyFrom_170 : decode cX1_copyFrom 170 = .ok (.iinc 2 1, 3) := by decide +kernel
theorem dX1_copyFrom_173 : decode cX1_copyFrom 173 = .ok (.goto (-39), 3) := by decide +kernel
theorem dX1_copyFrom_176 : decode cX1_copyFrom 176 = .ok (.iconst 0, 1) := by decide +kernel
theorem dX1_copyFrom_177 : decode cX1_copyFrom 177 = .ok (.istore_n 2, 1) := by decide +kernel
theorem dX1_copyFrom_178 : decode cX1_copyFrom 178 = .ok (.iload_n 2, 1) := by decide +kernel
theorem dX1_copyFrom_179 : decode cX1_copyFrom 179 = .ok (.aload_n 0, 1) := by decide +kernel
theorem dX1_copyFrom_180 : decode cX1_copyFrom 180 = .ok (.getfield 42, 3) := by decide +kernel
theorem dX1_copyFrom_183 : decode cX1_copyFrom 183 = .ok (.if_icmp .ge 37, 3) := by decide +kernel
theorem dX1_copyFrom_186 : decode cX1_copyFrom 186 = .ok (.aload_n 0, 1) := by decide +kernel
theorem dX1_copyFrom_187 : decode cX1_copyFrom 187 = .ok (.iload_n 2, 1) := by decide +kernel
theorem dX1_copyFrom_188 : decode cX1_copyFrom 188 = .ok (.invokevirtual 62, 3) := by decide +kernel
theorem dX1_copyFrom_191 : decode cX1_copyFrom 191 = .ok (.astore_n 3, 1) := by decide +kernel
theorem dX1_copyFrom_192 : decode cX1_copyFrom 192 = .ok (.aload_n 1, 1) := by decide +kernel
theorem dX1_copyFrom_193 : decode cX1_copyFrom 193 = .ok (.iload_n 2, 1) := by decide +kernel
theorem dX1_copyFrom_194 : decode cX1_copyFrom 194 = .ok (.invokevirtual 62, 3) := by decide +kernel
theorem dX1_copyFrom_197 : decode cX1_copyFrom 197 = .ok (.astore 4, 2) := by decide +kernel
theorem dX1_copyFrom_199 : decode cX1_copyFrom 199 = .ok (.aload_n 3, 1) := by decide +kernel
theorem dX1_copyFrom_200 : decode cX1_copyFrom 200 = .ok (.ifnull 14, 3) := by decide +kernel
theorem dX1_copyFrom_203 : decode cX1_copyFrom 203 = .ok (.aload 4, 2) := by decide +kernel
theorem dX1_copyFrom_205 : decode cX1_copyFrom 205 = .ok (.ifnull 9, 3) := by decide +kernel
theorem dX1_copyFrom_208 : decode cX1_copyFrom 208 = .ok (.aload_n 3, 1) := by decide +kernel
theorem dX1_copyFrom_209 : decode cX1_copyFrom 209 = .ok (.aload 4, 2) := by decide +kernel
theorem dX1_copyFrom_211 : decode cX1_copyFrom 211 = .ok (.invokevirtual 66, 3) := by decide +kernel
theorem dX1_copyFrom_214 : decode cX1_copyFrom 214 = .ok (.iinc 2 1, 3) := by decide +kernel
theorem dX1_copyFrom_217 : decode cX1_copyFrom 217 = .ok (.goto (-39), 3) := by decide +kernel
theorem dX1_copyFrom_220 : decode cX1_copyFrom 220 = .ok (.return_, 1) := by decide +kernel
theorem dX1_hasSpan_0 : decode cX1_hasSpan 0 = .ok (.iload_n 1, 1) := by decide +kernel
theorem dX1_hasSpan_1 : decode cX1_hasSpan 1 = .ok (.ifCond .lt 15, 3) := by decide +kernel
theorem dX1_hasSpan_4 : decode cX1_hasSpan 4 = .ok (.iload_n 1, 1) := by decide +kernel
theorem dX1_hasSpan_5 : decode cX1_hasSpan 5 = .ok (.aload_n 0, 1) := by decide +kernel
theorem dX1_hasSpan_6 : decode cX1_hasSpan 6 = .ok (.getfield 32, 3) := by decide +kernel
theorem dX1_hasSpan_9 : decode cX1_hasSpan 9 = .ok (.if_icmp .ge 7, 3) := by decide +kernel
theorem dX1_hasSpan_12 : decode cX1_hasSpan 12 = .ok (.iconst 1, 1) := by decide +kernel
theorem dX1_hasSpan_13 : decode cX1_hasSpan 13 = .ok (.goto 4, 3) := by decide +kernel
theorem dX1_hasSpan_16 : decode cX1_hasSpan 16 = .ok (.iconst 0, 1) := by decide +kernel
theorem dX1_hasSpan_17 : decode cX1_hasSpan 17 = .ok (.ireturn, 1) := by decide +kernel
theorem dX1_hasWay_0 : decode cX1_hasWay 0 = .ok (.iload_n 1, 1) := by decide +kernel
theorem dX1_hasWay_1 : decode cX1_hasWay 1 = .ok (.ifCond .lt 17, 3) := by decide +kernel
theorem dX1_hasWay_4 : decode cX1_hasWay 4 = .ok (.iload_n 1, 1) := by decide +kernel
theorem dX1_hasWay_5 : decode cX1_hasWay 5 = .ok (.aload_n 0, 1) := by decide +kernel
theorem dX1_hasWay_6 : decode cX1_hasWay 6 = .ok (.getfield 32, 3) := by decide +kernel
theorem dX1_hasWay_9 : decode cX1_hasWay 9 = .ok (.iconst 1, 1) := by decide +kernel
theorem dX1_hasWay_10 : decode cX1_hasWay 10 = .ok (.isub, 1) := by decide +kernel
theorem dX1_hasWay_11 : decode cX1_hasWay 11 = .ok (.if_icmp .ge 7, 3) := by decide +kernel
theorem dX1_hasWay_14 : decode cX1_hasWay 14 = .ok (.iconst 1, 1) := by decide +kernel
theorem dX1_hasWay_15 : decode cX1_hasWay 15 = .ok (.goto 4, 3) := by decide +kernel
theorem dX1_hasWay_18 : decode cX1_hasWay 18 = .ok (.iconst 0, 1) := by decide +kernel
theorem dX1_hasWay_19 : decode cX1_hasWay 19 = .ok (.ireturn, 1) := by decide +kernel
theorem dX1_chairAt_0 : decode cX1_chairAt 0 = .ok (.iload_n 1, 1) := by decide +kernel
theorem dX1_chairAt_1 : decode cX1_chairAt 1 = .ok (.ifCond .lt 29, 3) := by decide +kernel
theorem dX1_chairAt_4 : decode cX1_chairAt 4 = .ok (.iload_n 1, 1) := by decide +kernel
theorem dX1_chairAt_5 : decode cX1_chairAt 5 = .ok (.aload_n 0, 1) := by decide +kernel
theorem dX1_chairAt_6 : decode cX1_chairAt 6 = .ok (.getfield 39, 3) := by decide +kernel
theorem dX1_chairAt_9 : decode cX1_chairAt 9 = .ok (.if_icmp .ge 21, 3) := by decide +kernel
theorem dX1_chairAt_12 : decode cX1_chairAt 12 = .ok (.iload_n 1, 1) := by decide +kernel
theorem dX1_chairAt_13 : decode cX1_chairAt 13 = .ok (.aload_n 0, 1) := by decide +kernel
theorem dX1_chairAt_14 : decode cX1_chairAt 14 = .ok (.getfield 17, 3) := by decide +kernel
theorem dX1_chairAt_17 : decode cX1_chairAt 17 = .ok (.arraylength, 1) := by decide +kernel
theorem dX1_chairAt_18 : decode cX1_chairAt 18 = .ok (.if_icmp .ge 12, 3) := by decide +kernel
theorem dX1_chairAt_21 : decode cX1_chairAt 21 = .ok (.aload_n 0, 1) := by decide +kernel
theorem dX1_chairAt_22 : decode cX1_chairAt 22 = .ok (.getfield 17, 3) := by decide +kernel
theorem dX1_chairAt_25 : decode cX1_chairAt 25 = .ok (.iload_n 1, 1) := by decide +kernel
theorem dX1_chairAt_26 : decode cX1_chairAt 26 = .ok (.aaload, 1) := by decide +kernel
theorem dX1_chairAt_27 : decode cX1_chairAt 27 = .ok (.goto 4, 3) := by decide +kernel
theorem dX1_chairAt_30 : decode cX1_chairAt 30 = .ok (.aconst_null, 1) := by decide +kernel
theorem dX1_chairAt_31 : decode cX1_chairAt 31 = .ok (.areturn, 1) := by decide +kernel
theorem dX1_teamAt_0 : decode cX1_teamAt 0 = .ok (.iload_n 1, 1) := by decide +kernel
theorem dX1_teamAt_1 : decode cX1_teamAt 1 = .ok (.ifCond .lt 29, 3) := by decide +kernel
theorem dX1_teamAt_4 : decode cX1_teamAt 4 = .ok (.iload_n 1, 1) := by decide +kernel
theorem dX1_teamAt_5 : decode cX1_teamAt 5 = .ok (.aload_n 0, 1) := by decide +kernel
theorem dX1_teamAt_6 : decode cX1_teamAt 6 = .ok (.getfield 42, 3) := by decide +kernel
theorem dX1_teamAt_9 : decode cX1_teamAt 9 = .ok (.if_icmp .ge 21, 3) := by decide +kernel
theorem dX1_teamAt_12 : decode cX1_teamAt 12 = .ok (.iload_n 1, 1) := by decide +kernel
theorem dX1_teamAt_13 : decode cX1_teamAt 13 = .ok (.aload_n 0, 1) := by decide +kernel
theorem dX1_teamAt_14 : decode cX1_teamAt 14 = .ok (.getfield 24, 3) := by decide +kernel
theorem dX1_teamAt_17 : decode cX1_teamAt 17 = .ok (.arraylength, 1) := by decide +kernel
theorem dX1_teamAt_18 : decode cX1_teamAt 18 = .ok (.if_icmp .ge 12, 3) := by decide +kernel
theorem dX1_teamAt_21 : decode cX1_teamAt 21 = .ok (.aload_n 0, 1) := by decide +kernel
theorem dX1_teamAt_22 : decode cX1_teamAt 22 = .ok (.getfield 24, 3) := by decide +kernel
theorem dX1_teamAt_25 : decode cX1_teamAt 25 = .ok (.iload_n 1, 1) := by decide +kernel
theorem dX1_teamAt_26 : decode cX1_teamAt 26 = .ok (.aaload, 1) := by decide +kernel
theorem dX1_teamAt_27 : decode cX1_teamAt 27 = .ok (.goto 4, 3) := by decide +kernel
theorem dX1_teamAt_30 : decode cX1_teamAt 30 = .ok (.aconst_null, 1) := by decide +kernel
theorem dX1_teamAt_31 : decode cX1_teamAt 31 = .ok (.areturn, 1) := by decide +kernel
theorem dX1_journalAt_0 : decode cX1_journalAt 0 = .ok (.iload_n 1, 1) := by decide +kernel
theorem dX1_journalAt_1 : decode cX1_journalAt 1 = .ok (.ifCond .lt 29, 3) := by decide +kernel
theorem dX1_journalAt_4 : decode cX1_journalAt 4 = .ok (.iload_n 1, 1) := by decide +kernel
theorem dX1_journalAt_5 : decode cX1_journalAt 5 = .ok (.aload_n 0, 1) := by decide +kernel
theorem dX1_journalAt_6 : decode cX1_journalAt 6 = .ok (.getfield 45, 3) := by decide +kernel
theorem dX1_journalAt_9 : decode cX1_journalAt 9 = .ok (.if_icmp .ge 21, 3) := by decide +kernel
theorem dX1_journalAt_12 : decode cX1_journalAt 12 = .ok (.iload_n 1, 1) := by decide +kernel
theorem dX1_journalAt_13 : decode cX1_journalAt 13 = .ok (.aload_n 0, 1) := by decide +kernel
theorem dX1_journalAt_14 : decode cX1_journalAt 14 = .ok (.getfield 29, 3) := by decide +kernel
theorem dX1_journalAt_17 : decode cX1_journalAt 17 = .ok (.arraylength, 1) := by decide +kernel
theorem dX1_journalAt_18 : decode cX1_journalAt 18 = .ok (.if_icmp .ge 12, 3) := by decide +kernel
theorem dX1_journalAt_21 : decode cX1_journalAt 21 = .ok (.aload_n 0, 1) := by decide +kernel
theorem dX1_journalAt_22 : decode cX1_journalAt 22 = .ok (.getfield 29, 3) := by decide +kernel
theorem dX1_journalAt_25 : decode cX1_journalAt 25 = .ok (.iload_n 1, 1) := by decide +kernel
theorem dX1_journalAt_26 : decode cX1_journalAt 26 = .ok (.iaload, 1) := by decide +kernel
theorem dX1_journalAt_27 : decode cX1_journalAt 27 = .ok (.goto 4, 3) := by decide +kernel
theorem dX1_journalAt_30 : decode cX1_journalAt 30 = .ok (.iconst (-1), 1) := by decide +kernel
theorem dX1_journalAt_31 : decode cX1_journalAt 31 = .ok (.ireturn, 1) := by decide +kernel
theorem dX1_wayBehind_0 : decode cX1_wayBehind 0 = .ok (.iload_n 1, 1) := by decide +kernel
theorem dX1_wayBehind_1 : decode cX1_wayBehind 1 = .ok (.ifCond .lt 21, 3) := by decide +kernel
theorem dX1_wayBehind_4 : decode cX1_wayBehind 4 = .ok (.iload_n 1, 1) := by decide +kernel
theorem dX1_wayBehind_5 : decode cX1_wayBehind 5 = .ok (.aload_n 0, 1) := by decide +kernel
theorem dX1_wayBehind_6 : decode cX1_wayBehind 6 = .ok (.getfield 9, 3) := by decide +kernel
theorem dX1_wayBehind_9 : decode cX1_wayBehind 9 = .ok (.arraylength, 1) := by decide +kernel
theorem dX1_wayBehind_10 : decode cX1_wayBehind 10 = .ok (.if_icmp .ge 12, 3) := by decide +kernel
theorem dX1_wayBehind_13 : decode cX1_wayBehind 13 = .ok (.aload_n 0, 1) := by decide +kernel
theorem dX1_wayBehind_14 : decode cX1_wayBehind 14 = .ok (.getfield 9, 3) := by decide +kernel
theorem dX1_wayBehind_17 : decode cX1_wayBehind 17 = .ok (.iload_n 1, 1) := by decide +kernel
theorem dX1_wayBehind_18 : decode cX1_wayBehind 18 = .ok (.iaload, 1) := by decide +kernel
theorem dX1_wayBehind_19 : decode cX1_wayBehind 19 = .ok (.goto 4, 3) := by decide +kernel
theorem dX1_wayBehind_22 : decode cX1_wayBehind 22 = .ok (.iconst 0, 1) := by decide +kernel
theorem dX1_wayBehind_23 : decode cX1_wayBehind 23 = .ok (.ireturn, 1) := by decide +kernel
theorem dX1_changeWay_0 : decode cX1_changeWay 0 = .ok (.iload_n 1, 1) := by decide +kernel
theorem dX1_changeWay_1 : decode cX1_changeWay 1 = .ok (.ifCond .lt 19, 3) := by decide +kernel
theorem dX1_changeWay_4 : decode cX1_changeWay 4 = .ok (.iload_n 1, 1) := by decide +kernel
theorem dX1_changeWay_5 : decode cX1_changeWay 5 = .ok (.aload_n 0, 1) := by decide +kernel
theorem dX1_changeWay_6 : decode cX1_changeWay 6 = .ok (.getfield 9, 3) := by decide +kernel
theorem dX1_changeWay_9 : decode cX1_changeWay 9 = .ok (.arraylength, 1) := by decide +kernel
theorem dX1_changeWay_10 : decode cX1_changeWay 10 = .ok (.if_icmp .ge 10, 3) := by decide +kernel
theorem dX1_changeWay_13 : decode cX1_changeWay 13 = .ok (.aload_n 0, 1) := by decide +kernel
theorem dX1_changeWay_14 : decode cX1_changeWay 14 = .ok (.getfield 9, 3) := by decide +kernel
theorem dX1_changeWay_17 : decode cX1_changeWay 17 = .ok (.iload_n 1, 1) := by decide +kernel
theorem dX1_changeWay_18 : decode cX1_changeWay 18 = .ok (.iload_n 2, 1) := by decide +kernel
theorem dX1_changeWay_19 : decode cX1_changeWay 19 = .ok (.iastore, 1) := by decide +kernel
theorem dX1_changeWay_20 : decode cX1_changeWay 20 = .ok (.return_, 1) := by decide +kernel
theorem dX1_wayBetween_0 : decode cX1_wayBetween 0 = .ok (.iconst 0, 1) := by decide +kernel
theorem dX1_wayBetween_1 : decode cX1_wayBetween 1 = .ok (.istore_n 3, 1) := by decide +kernel
theorem dX1_wayBetween_2 : decode cX1_wayBetween 2 = .ok (.iload_n 1, 1) := by decide +kernel
theorem dX1_wayBetween_3 : decode cX1_wayBetween 3 = .ok (.iload_n 2, 1) := by decide +kernel
theorem dX1_wayBetween_4 : decode cX1_wayBetween 4 = .ok (.invokestatic 69, 3) := by decide +kernel
theorem dX1_wayBetween_7 : decode cX1_wayBetween 7 = .ok (.istore 4, 2) := by decide +kernel
theorem dX1_wayBetween_9 : decode cX1_wayBetween 9 = .ok (.iload_n 1, 1) := by decide +kernel
theorem dX1_wayBetween_10 : decode cX1_wayBetween 10 = .ok (.iload_n 2, 1) := by decide +kernel
theorem dX1_wayBetween_11 : decode cX1_wayBetween 11 = .ok (.invokestatic 75, 3) := by decide +kernel
theorem dX1_wayBetween_14 : decode cX1_wayBetween 14 = .ok (.istore 5, 2) := by decide +kernel
theorem dX1_wayBetween_16 : decode cX1_wayBetween 16 = .ok (.iload 5, 2) := by decide +kernel
theorem dX1_wayBetween_18 : decode cX1_wayBetween 18 = .ok (.iload 4, 2) := by decide +kernel
theorem dX1_wayBetween_20 : decode cX1_wayBetween 20 = .ok (.if_icmp .ge 18, 3) := by decide +kernel
theorem dX1_wayBetween_23 : decode cX1_wayBetween 23 = .ok (.iload_n 3, 1) := by decide +kernel
theorem dX1_wayBetween_24 : decode cX1_wayBetween 24 = .ok (.aload_n 0, 1) := by decide +kernel
theorem dX1_wayBetween_25 : decode cX1_wayBetween 25 = .ok (.iload 5, 2) := by decide +kernel
theorem dX1_wayBetween_27 : decode cX1_wayBetween 27 = .ok (.invokevirtual 78, 3) := by decide +kernel
theorem dX1_wayBetween_30 : decode cX1_wayBetween 30 = .ok (.iadd, 1) := by decide +kernel
theorem dX1_wayBetween_31 : decode cX1_wayBetween 31 = .ok (.istore_n 3, 1) := by decide +kernel
theorem dX1_wayBetween_32 : decode cX1_wayBetween 32 = .ok (.iinc 5 1, 3) := by decide +kernel
theorem dX1_wayBetween_35 : decode cX1_wayBetween 35 = .ok (.goto (-19), 3) := by decide +kernel
theorem dX1_wayBetween_38 : decode cX1_wayBetween 38 = .ok (.iload_n 3, 1) := by decide +kernel
theorem dX1_wayBetween_39 : decode cX1_wayBetween 39 = .ok (.ireturn, 1) := by decide +kernel
theorem dX1_hangChair_0 : decode cX1_hangChair 0 = .ok (.aload_n 0, 1) := by decide +kernel
theorem dX1_hangChair_1 : decode cX1_hangChair 1 = .ok (.getfield 39, 3) := by decide +kernel
theorem dX1_hangChair_4 : decode cX1_hangChair 4 = .ok (.aload_n 0, 1) := by decide +kernel
theorem dX1_hangChair_5 : decode cX1_hangChair 5 = .ok (.getfield 17, 3) := by decide +kernel
theorem dX1_hangChair_8 : decode cX1_hangChair 8 = .ok (.arraylength, 1) := by decide +kernel
theorem dX1_hangChair_9 : decode cX1_hangChair 9 = .ok (.if_icmp .lt 5, 3) := by decide +kernel
theorem dX1_hangChair_12 : decode cX1_hangChair 12 = .ok (.iconst (-1), 1) := by decide +kernel
theorem dX1_hangChair_13 : decode cX1_hangChair 13 = .ok (.ireturn, 1) := by decide +kernel
theorem dX1_hangChair_14 : decode cX1_hangChair 14 = .ok (.aload_n 0, 1) := by decide +kernel
theorem dX1_hangChair_15 : decode cX1_hangChair 15 = .ok (.dup, 1) := by decide +kernel
theorem dX1_hangChair_16 : decode cX1_hangChair 16 = .ok (.getfield 39, 3) := by decide +kernel
theorem dX1_hangChair_19 : decode cX1_hangChair 19 = .ok (.iconst 1, 1) := by decide +kernel
theorem dX1_hangChair_20 : decode cX1_hangChair 20 = .ok (.iadd, 1) := by decide +kernel
theorem dX1_hangChair_21 : decode cX1_hangChair 21 = .ok (.putfield 39, 3) := by decide +kernel
theorem dX1_hangChair_24 : decode cX1_hangChair 24 = .ok (.aload_n 0, 1) := by decide +kernel
theorem dX1_hangChair_25 : decode cX1_hangChair 25 = .ok (.aload_n 0, 1) := by decide +kernel
theorem dX1_hangChair_26 : decode cX1_hangChair 26 = .ok (.getfield 39, 3) := by decide +kernel
theorem dX1_hangChair_29 : decode cX1_hangChair 29 = .ok (.iconst 1, 1) := by decide +kernel
theorem dX1_hangChair_30 : decode cX1_hangChair 30 = .ok (.isub, 1) := by decide +kernel
theorem dX1_hangChair_31 : decode cX1_hangChair 31 = .ok (.invokevirtual 54, 3) := by decide +kernel
theorem dX1_hangChair_34 : decode cX1_hangChair 34 = .ok (.astore 5, 2) := by decide +kernel
theorem dX1_hangChair_36 : decode cX1_hangChair 36 = .ok (.aload 5, 2) := by decide +kernel
theorem dX1_hangChair_38 : decode cX1_hangChair 38 = .ok (.ifnull 13, 3) := by decide +kernel
theorem dX1_hangChair_41 : decode cX1_hangChair 41 = .ok (.aload 5, 2) := by decide +kernel
theorem dX1_hangChair_43 : decode cX1_hangChair 43 = .ok (.iload_n 1, 1) := by decide +kernel
theorem dX1_hangChair_44 : decode cX1_hangChair 44 = .ok (.iload_n 2, 1) := by decide +kernel
theorem dX1_hangChair_45 : decode cX1_hangChair 45 = .ok (.iload_n 3, 1) := by decide +kernel
theorem dX1_hangChair_46 : decode cX1_hangChair 46 = .ok (.iload 4, 2) := by decide +kernel
theorem dX1_hangChair_48 : decode cX1_hangChair 48 = .ok (.invokevirtual 82, 3) := by decide +kernel
theorem dX1_hangChair_51 : decode cX1_hangChair 51 = .ok (.aload_n 0, 1) := by decide +kernel
theorem dX1_hangChair_52 : decode cX1_hangChair 52 = .ok (.getfield 39, 3) := by decide +kernel
theorem dX1_hangChair_55 : decode cX1_hangChair 55 = .ok (.iconst 1, 1) := by decide +kernel
theorem dX1_hangChair_56 : decode cX1_hangChair 56 = .ok (.isub, 1) := by decide +kernel
theorem dX1_hangChair_57 : decode cX1_hangChair 57 = .ok (.ireturn, 1) := by decide +kernel
theorem dX1_sendTeam_0 : decode cX1_sendTeam 0 = .ok (.aload_n 0, 1) := by decide +kernel
theorem dX1_sendTeam_1 : decode cX1_sendTeam 1 = .ok (.getfield 42, 3) := by decide +kernel
theorem dX1_sendTeam_4 : decode cX1_sendTeam 4 = .ok (.aload_n 0, 1) := by decide +kernel
theorem dX1_sendTeam_5 : decode cX1_sendTeam 5 = .ok (.getfield 24, 3) := by decide +kernel
theorem dX1_sendTeam_8 : decode cX1_sendTeam 8 = .ok (.arraylength, 1) := by decide +kernel
theorem dX1_sendTeam_9 : decode cX1_sendTeam 9 = .ok (.if_icmp .lt 5, 3) := by decide +kernel
theorem dX1_sendTeam_12 : decode cX1_sendTeam 12 = .ok (.iconst (-1), 1) := by decide +kernel
theorem dX1_sendTeam_13 : decode cX1_sendTeam 13 = .ok (.ireturn, 1) := by decide +kernel
theorem dX1_sendTeam_14 : decode cX1_sendTeam 14 = .ok (.aload_n 0, 1) := by decide +kernel
theorem dX1_sendTeam_15 : decode cX1_sendTeam 15 = .ok (.dup, 1) := by decide +kernel
theorem dX1_sendTeam_16 : decode cX1_sendTeam 16 = .ok (.getfield 42, 3) := by decide +kernel
theorem dX1_sendTeam_19 : decode cX1_sendTeam 19 = .ok (.iconst 1, 1) := by decide +kernel
theorem dX1_sendTeam_20 : decode cX1_sendTeam 20 = .ok (.iadd, 1) := by decide +kernel
theorem dX1_sendTeam_21 : decode cX1_sendTeam 21 = .ok (.putfield 42, 3) := by decide +kernel
theorem dX1_sendTeam_24 : decode cX1_sendTeam 24 = .ok (.aload_n 0, 1) := by decide +kernel
theorem dX1_sendTeam_25 : decode cX1_sendTeam 25 = .ok (.aload_n 0, 1) := by decide +kernel
theorem dX1_sendTeam_26 : decode cX1_sendTeam 26 = .ok (.getfield 42, 3) := by decide +kernel
theorem dX1_sendTeam_29 : decode cX1_sendTeam 29 = .ok (.iconst 1, 1) := by decide +kernel
theorem dX1_sendTeam_30 : decode cX1_sendTeam 30 = .ok (.isub, 1) := by decide +kernel
theorem dX1_sendTeam_31 : decode cX1_sendTeam 31 = .ok (.invokevirtual 62, 3) := by decide +kernel
theorem dX1_sendTeam_34 : decode cX1_sendTeam 34 = .ok (.astore_n 3, 1) := by decide +kernel
theorem dX1_sendTeam_35 : decode cX1_sendTeam 35 = .ok (.aload_n 3, 1) := by decide +kernel
theorem dX1_sendTeam_36 : decode cX1_sendTeam 36 = .ok (.ifnull 9, 3) := by decide +kernel
theorem dX1_sendTeam_39 : decode cX1_sendTeam 39 = .ok (.aload_n 3, 1) := by decide +kernel
theorem dX1_sendTeam_40 : decode cX1_sendTeam 40 = .ok (.iload_n 1, 1) := by decide +kernel
theorem dX1_sendTeam_41 : decode cX1_sendTeam 41 = .ok (.iload_n 2, 1) := by decide +kernel
theorem dX1_sendTeam_42 : decode cX1_sendTeam 42 = .ok (.invokevirtual 86, 3) := by decide +kernel
theorem dX1_sendTeam_45 : decode cX1_sendTeam 45 = .ok (.aload_n 0, 1) := by decide +kernel
theorem dX1_sendTeam_46 : decode cX1_sendTeam 46 = .ok (.getfield 42, 3) := by decide +kernel
theorem dX1_sendTeam_49 : decode cX1_sendTeam 49 = .ok (.iconst 1, 1) := by decide +kernel
theorem dX1_sendTeam_50 : decode cX1_sendTeam 50 = .ok (.isub, 1) := by decide +kernel
theorem dX1_sendTeam_51 : decode cX1_sendTeam 51 = .ok (.ireturn, 1) := by decide +kernel
theorem dX1_runOut_0 : decode cX1_runOut 0 = .ok (.iconst 0, 1) := by decide +kernel
theorem dX1_runOut_1 : decode cX1_runOut 1 = .ok (.istore_n 1, 1) := by decide +kernel
theorem dX1_runOut_2 : decode cX1_runOut 2 = .ok (.aload_n 0, 1) := by decide +kernel
theorem dX1_runOut_3 : decode cX1_runOut 3 = .ok (.getfield 42, 3) := by decide +kernel
theorem dX1_runOut_6 : decode cX1_runOut 6 = .ok (.ifCond .le 36, 3) := by decide +kernel
theorem dX1_runOut_9 : decode cX1_runOut 9 = .ok (.iconst 0, 1) := by decide +kernel
theorem dX1_runOut_10 : decode cX1_runOut 10 = .ok (.istore_n 2, 1) := by decide +kernel
theorem dX1_runOut_11 : decode cX1_runOut 11 = .ok (.iload_n 2, 1) := by decide +kernel
theorem dX1_runOut_12 : decode cX1_runOut 12 = .ok (.sipush 1000, 3) := by decide +kernel
theorem dX1_runOut_15 : decode cX1_runOut 15 = .ok (.if_icmp .ge 27, 3) := by decide +kernel
theorem dX1_runOut_18 : decode cX1_runOut 18 = .ok (.aload_n 0, 1) := by decide +kernel
theorem dX1_runOut_19 : decode cX1_runOut 19 = .ok (.getfield 45, 3) := by decide +kernel
theorem dX1_runOut_22 : decode cX1_runOut 22 = .ok (.aload_n 0, 1) := by decide +kernel
theorem dX1_runOut_23 : decode cX1_runOut 23 = .ok (.getfield 39, 3) := by decide +kernel
theorem dX1_runOut_26 : decode cX1_runOut 26 = .ok (.if_icmp .ge 16, 3) := by decide +kernel
theorem dX1_runOut_29 : decode cX1_runOut 29 = .ok (.aload_n 0, 1) := by decide +kernel
theorem dX1_runOut_30 : decode cX1_runOut 30 = .ok (.invokevirtual 90, 3) := by decide +kernel
theorem dX1_runOut_33 : decode cX1_runOut 33 = .ok (.iinc 1 1, 3) := by decide +kernel
theorem dX1_runOut_36 : decode cX1_runOut 36 = .ok (.iinc 2 1, 3) := by decide +kernel
theorem dX1_runOut_39 : decode cX1_runOut 39 = .ok (.goto (-28), 3) := by decide +kernel
theorem dX1_runOut_42 : decode cX1_runOut 42 = .ok (.aload_n 0, 1) := by decide +kernel
theorem dX1_runOut_43 : decode cX1_runOut 43 = .ok (.getfield 45, 3) := by decide +kernel
theorem dX1_runOut_46 : decode cX1_runOut 46 = .ok (.aload_n 0, 1) := by decide +kernel
theorem dX1_runOut_47 : decode cX1_runOut 47 = .ok (.getfield 39, 3) := by decide +kernel
theorem dX1_runOut_50 : decode cX1_runOut 50 = .ok (.if_icmp .ge 7, 3) := by decide +kernel
theorem dX1_runOut_53 : decode cX1_runOut 53 = .ok (.iconst (-1), 1) := by decide +kernel
theorem dX1_runOut_54 : decode cX1_runOut 54 = .ok (.goto 4, 3) := by decide +kernel
theorem dX1_runOut_57 : decode cX1_runOut 57 = .ok (.iload_n 1, 1) := by decide +kernel
theorem dX1_runOut_58 : decode cX1_runOut 58 = .ok (.ireturn, 1) := by decide +kernel
theorem dX1_passMinute_0 : decode cX1_passMinute 0 = .ok (.aload_n 0, 1) := by decide +kernel
theorem dX1_passMinute_1 : decode cX1_passMinute 1 = .ok (.getfield 36, 3) := by decide +kernel
theorem dX1_passMinute_4 : decode cX1_passMinute 4 = .ok (.iconst 1, 1) := by decide +kernel
theorem dX1_passMinute_5 : decode cX1_passMinute 5 = .ok (.iadd, 1) := by decide +kernel
theorem dX1_passMinute_6 : decode cX1_passMinute 6 = .ok (.bipush 10, 2) := by decide +kernel
theorem dX1_passMinute_8 : decode cX1_passMinute 8 = .ok (.irem, 1) := by decide +kernel
theorem dX1_passMinute_9 : decode cX1_passMinute 9 = .ok (.ifCond .ne 7, 3) := by decide +kernel
theorem dX1_passMinute_12 : decode cX1_passMinute 12 = .ok (.aload_n 0, 1) := by decide +kernel
theorem dX1_passMinute_13 : decode cX1_passMinute 13 = .ok (.invokevirtual 93, 3) := by decide +kernel
theorem dX1_passMinute_16 : decode cX1_passMinute 16 = .ok (.iconst 0, 1) := by decide +kernel
theorem dX1_passMinute_17 : decode cX1_passMinute 17 = .ok (.istore_n 1, 1) := by decide +kernel
theorem dX1_passMinute_18 : decode cX1_passMinute 18 = .ok (.iload_n 1, 1) := by decide +kernel
theorem dX1_passMinute_19 : decode cX1_passMinute 19 = .ok (.aload_n 0, 1) := by decide +kernel
theorem dX1_passMinute_20 : decode cX1_passMinute 20 = .ok (.getfield 42, 3) := by decide +kernel
theorem dX1_passMinute_23 : decode cX1_passMinute 23 = .ok (.if_icmp .ge 14, 3) := by decide +kernel
theorem dX1_passMinute_26 : decode cX1_passMinute 26 = .ok (.aload_n 0, 1) := by decide +kernel
theorem dX1_passMinute_27 : decode cX1_passMinute 27 = .ok (.iload_n 1, 1) := by decide +kernel
theorem dX1_passMinute_28 : decode cX1_passMinute 28 = .ok (.invokevirtual 96, 3) := by decide +kernel
theorem dX1_passMinute_31 : decode cX1_passMinute 31 = .ok (.iinc 1 1, 3) := by decide +kernel
theorem dX1_passMinute_34 : decode cX1_passMinute 34 = .ok (.goto (-16), 3) := by decide +kernel
theorem dX1_passMinute_37 : decode cX1_passMinute 37 = .ok (.iconst 0, 1) := by decide +kernel
theorem dX1_passMinute_38 : decode cX1_passMinute 38 = .ok (.istore_n 1, 1) := by decide +kernel
theorem dX1_passMinute_39 : decode cX1_passMinute 39 = .ok (.iload_n 1, 1) := by decide +kernel
theorem dX1_passMinute_40 : decode cX1_passMinute 40 = .ok (.aload_n 0, 1) := by decide +kernel
theorem dX1_passMinute_41 : decode cX1_passMinute 41 = .ok (.getfield 42, 3) := by decide +kernel
theorem dX1_passMinute_44 : decode cX1_passMinute 44 = .ok (.if_icmp .ge 14, 3) := by decide +kernel
theorem dX1_passMinute_47 : decode cX1_passMinute 47 = .ok (.aload_n 0, 1) := by decide +kernel
theorem dX1_passMinute_48 : decode cX1_passMinute 48 = .ok (.iload_n 1, 1) := by decide +kernel
theorem dX1_passMinute_49 : decode cX1_passMinute 49 = .ok (.invokevirtual 100, 3) := by decide +kernel
theorem dX1_passMinute_52 : decode cX1_passMinute 52 = .ok (.iinc 1 1, 3) := by decide +kernel
theorem dX1_passMinute_55 : decode cX1_passMinute 55 = .ok (.goto (-16), 3) := by decide +kernel
theorem dX1_passMinute_58 : decode cX1_passMinute 58 = .ok (.aload_n 0, 1) := by decide +kernel
theorem dX1_passMinute_59 : decode cX1_passMinute 59 = .ok (.dup, 1) := by decide +kernel
theorem dX1_passMinute_60 : decode cX1_passMinute 60 = .ok (.getfield 36, 3) := by decide +kernel
theorem dX1_passMinute_63 : decode cX1_passMinute 63 = .ok (.iconst 1, 1) := by decide +kernel
theorem dX1_passMinute_64 : decode cX1_passMinute 64 = .ok (.iadd, 1) := by decide +kernel
theorem dX1_passMinute_65 : decode cX1_passMinute 65 = .ok (.putfield 36, 3) := by decide +kernel
theorem dX1_passMinute_68 : decode cX1_passMinute 68 = .ok (.return_, 1) := by decide +kernel
theorem dX1_growColder_0 : decode cX1_growColder 0 = .ok (.iconst 0, 1) := by decide +kernel
theorem dX1_growColder_1 : decode cX1_growColder 1 = .ok (.istore_n 1, 1) := by decide +kernel
theorem dX1_growColder_2 : decode cX1_growColder 2 = .ok (.iload_n 1, 1) := by decide +kernel
theorem dX1_growColder_3 : decode cX1_growColder 3 = .ok (.aload_n 0, 1) := by decide +kernel
theorem dX1_growColder_4 : decode cX1_growColder 4 = .ok (.getfield 39, 3) := by decide +kernel
theorem dX1_growColder_7 : decode cX1_growColder 7 = .ok (.if_icmp .ge 42, 3) := by decide +kernel
theorem dX1_growColder_10 : decode cX1_growColder 10 = .ok (.aload_n 0, 1) := by decide +kernel
theorem dX1_growColder_11 : decode cX1_growColder 11 = .ok (.iload_n 1, 1) := by decide +kernel
theorem dX1_growColder_12 : decode cX1_growColder 12 = .ok (.invokevirtual 54, 3) := by decide +kernel
theorem dX1_growColder_15 : decode cX1_growColder 15 = .ok (.astore_n 2, 1) := by decide +kernel
theorem dX1_growColder_16 : decode cX1_growColder 16 = .ok (.aload_n 2, 1) := by decide +kernel
theorem dX1_growColder_17 : decode cX1_growColder 17 = .ok (.ifnull 26, 3) := by decide +kernel
theorem dX1_growColder_20 : decode cX1_growColder 20 = .ok (.aload_n 2, 1) := by decide +kernel
theorem dX1_growColder_21 : decode cX1_growColder 21 = .ok (.getfield 103, 3) := by decide +kernel
theorem dX1_growColder_24 : decode cX1_growColder 24 = .ok (.iconst 2, 1) := by decide +kernel
theorem dX1_growColder_25 : decode cX1_growColder 25 = .ok (.if_icmp .eq 18, 3) := by decide +kernel
theorem dX1_growColder_28 : decode cX1_growColder 28 = .ok (.aload_n 2, 1) := by decide +kernel
theorem dX1_growColder_29 : decode cX1_growColder 29 = .ok (.bipush 20, 2) := by decide +kernel
theorem dX1_growColder_31 : decode cX1_growColder 31 = .ok (.aload_n 2, 1) := by decide +kernel
theorem dX1_growColder_32 : decode cX1_growColder 32 = .ok (.getfield 106, 3) := by decide +kernel
theorem dX1_growColder_35 : decode cX1_growColder 35 = .ok (.iconst 1, 1) := by decide +kernel
theorem dX1_growColder_36 : decode cX1_growColder 36 = .ok (.iadd, 1) := by decide +kernel
theorem dX1_growColder_37 : decode cX1_growColder 37 = .ok (.invokestatic 75, 3) := by decide +kernel
theorem dX1_growColder_40 : decode cX1_growColder 40 = .ok (.putfield 106, 3) := by decide +kernel
theorem dX1_growColder_43 : decode cX1_growColder 43 = .ok (.iinc 1 1, 3) := by decide +kernel
theorem dX1_growColder_46 : decode cX1_growColder 46 = .ok (.goto (-44), 3) := by decide +kernel
theorem dX1_growColder_49 : decode cX1_growColder 49 = .ok (.return_, 1) := by decide +kernel
theorem dX1_goOn_0 : decode cX1_goOn 0 = .ok (.aload_n 0, 1) := by decide +kernel
theorem dX1_goOn_1 : decode cX1_goOn 1 = .ok (.iload_n 1, 1) := by decide +kernel
theorem dX1_goOn_2 : decode cX1_goOn 2 = .ok (.invokevirtual 62, 3) := by decide +kernel
theorem dX1_goOn_5 : decode cX1_goOn 5 = .ok (.astore_n 2, 1) := by decide +kernel
theorem dX1_goOn_6 : decode cX1_goOn 6 = .ok (.aload_n 2, 1) := by decide +kernel
theorem dX1_goOn_7 : decode cX1_goOn 7 = .ok (.ifnull 10, 3) := by decide +kernel
theorem dX1_goOn_10 : decode cX1_goOn 10 = .ok (.aload_n 2, 1) := by decide +kernel
theorem dX1_goOn_11 : decode cX1_goOn 11 = .ok (.getfield 109, 3) := by decide +kernel
theorem dX1_goOn_14 : decode cX1_goOn 14 = .ok (.ifCond .ne 4, 3) := by decide +kernel
theorem dX1_goOn_17 : decode cX1_goOn 17 = .ok (.return_, 1) := by decide +kernel
theorem dX1_goOn_18 : decode cX1_goOn 18 = .ok (.aload_n 2, 1) := by decide +kernel
theorem dX1_goOn_19 : decode cX1_goOn 19 = .ok (.getfield 109, 3) := by decide +kernel
theorem dX1_goOn_22 : decode cX1_goOn 22 = .ok (.iconst 1, 1) := by decide +kernel
theorem dX1_goOn_23 : decode cX1_goOn 23 = .ok (.if_icmp .ne 13, 3) := by decide +kernel
theorem dX1_goOn_26 : decode cX1_goOn 26 = .ok (.aload_n 2, 1) := by decide +kernel
theorem dX1_goOn_27 : decode cX1_goOn 27 = .ok (.dup, 1) := by decide +kernel
theorem dX1_goOn_28 : decode cX1_goOn 28 = .ok (.getfield 110, 3) := by decide +kernel
theorem dX1_goOn_31 : decode cX1_goOn 31 = .ok (.iconst 1, 1) := by decide +kernel
theorem dX1_goOn_32 : decode cX1_goOn 32 = .ok (.iadd, 1) := by decide +kernel
theorem dX1_goOn_33 : decode cX1_goOn 33 = .ok (.putfield 110, 3) := by decide +kernel
theorem dX1_goOn_36 : decode cX1_goOn 36 = .ok (.aload_n 2, 1) := by decide +kernel
theorem dX1_goOn_37 : decode cX1_goOn 37 = .ok (.dup, 1) := by decide +kernel
theorem dX1_goOn_38 : decode cX1_goOn 38 = .ok (.getfield 113, 3) := by decide +kernel
theorem dX1_goOn_41 : decode cX1_goOn 41 = .ok (.iconst 1, 1) := by decide +kernel
theorem dX1_goOn_42 : decode cX1_goOn 42 = .ok (.isub, 1) := by decide +kernel
theorem dX1_goOn_43 : decode cX1_goOn 43 = .ok (.putfield 113, 3) := by decide +kernel
theorem dX1_goOn_46 : decode cX1_goOn 46 = .ok (.aload_n 2, 1) := by decide +kernel
theorem dX1_goOn_47 : decode cX1_goOn 47 = .ok (.getfield 113, 3) := by decide +kernel
theorem dX1_goOn_50 : decode cX1_goOn 50 = .ok (.ifCond .le 4, 3) := by decide +kernel
theorem dX1_goOn_53 : decode cX1_goOn 53 = .ok (.return_, 1) := by decide +kernel
theorem dX1_goOn_54 : decode cX1_goOn 54 = .ok (.aload_n 2, 1) := by decide +kernel
theorem dX1_goOn_55 : decode cX1_goOn 55 = .ok (.getfield 109, 3) := by decide +kernel
theorem dX1_goOn_58 : decode cX1_goOn 58 = .ok (.iconst 3, 1) := by decide +kernel
theorem dX1_goOn_59 : decode cX1_goOn 59 = .ok (.if_icmp .ne 23, 3) := by decide +kernel
theorem dX1_goOn_62 : decode cX1_goOn 62 = .ok (.aload_n 2, 1) := by decide +kernel
theorem dX1_goOn_63 : decode cX1_goOn 63 = .ok (.invokevirtual 116, 3) := by decide +kernel
theorem dX1_goOn_66 : decode cX1_goOn 66 = .ok (.aload_n 2, 1) := by decide +kernel
theorem dX1_goOn_67 : decode cX1_goOn 67 = .ok (.iconst 0, 1) := by decide +kernel
theorem dX1_goOn_68 : decode cX1_goOn 68 = .ok (.aload_n 2, 1) := by decide +kernel
theorem dX1_goOn_69 : decode cX1_goOn 69 = .ok (.getfield 119, 3) := by decide +kernel
theorem dX1_goOn_72 : decode cX1_goOn 72 = .ok (.bipush 6, 2) := by decide +kernel
theorem dX1_goOn_74 : decode cX1_goOn 74 = .ok (.isub, 1) := by decide +kernel
theorem dX1_goOn_75 : decode cX1_goOn 75 = .ok (.invokestatic 69, 3) := by decide +kernel
theorem dX1_goOn_78 : decode cX1_goOn 78 = .ok (.putfield 119, 3) := by decide +kernel
theorem dX1_goOn_81 : decode cX1_goOn 81 = .ok (.return_, 1) := by decide +kernel
theorem dX1_goOn_82 : decode cX1_goOn 82 = .ok (.aload_n 0, 1) := by decide +kernel
theorem dX1_goOn_83 : decode cX1_goOn 83 = .ok (.aload_n 2, 1) := by decide +kernel
theorem dX1_goOn_84 : decode cX1_goOn 84 = .ok (.getfield 122, 3) := by decide +kernel
theorem dX1_goOn_87 : decode cX1_goOn 87 = .ok (.invokevirtual 54, 3) := by decide +kernel
theorem dX1_goOn_90 : decode cX1_goOn 90 = .ok (.astore_n 3, 1) := by decide +kernel
theorem dX1_goOn_91 : decode cX1_goOn 91 = .ok (.aload_n 3, 1) := by decide +kernel
theorem dX1_goOn_92 : decode cX1_goOn 92 = .ok (.ifnonnull 4, 3) := by decide +kernel
theorem dX1_goOn_95 : decode cX1_goOn 95 = .ok (.return_, 1) := by decide +kernel
theorem dX1_goOn_96 : decode cX1_goOn 96 = .ok (.aload_n 2, 1) := by decide +kernel
theorem dX1_goOn_97 : decode cX1_goOn 97 = .ok (.getfield 109, 3) := by decide +kernel
theorem dX1_goOn_100 : decode cX1_goOn 100 = .ok (.iconst 1, 1) := by decide +kernel
theorem dX1_goOn_101 : decode cX1_goOn 101 = .ok (.if_icmp .ne 13, 3) := by decide +kernel
theorem dX1_goOn_104 : decode cX1_goOn 104 = .ok (.aload_n 0, 1) := by decide +kernel
theorem dX1_goOn_105 : decode cX1_goOn 105 = .ok (.iload_n 1, 1) := by decide +kernel
theorem dX1_goOn_106 : decode cX1_goOn 106 = .ok (.aload_n 2, 1) := by decide +kernel
theorem dX1_goOn_107 : decode cX1_goOn 107 = .ok (.aload_n 3, 1) := by decide +kernel
theorem dX1_goOn_108 : decode cX1_goOn 108 = .ok (.invokevirtual 125, 3) := by decide +kernel
theorem dX1_goOn_111 : decode cX1_goOn 111 = .ok (.goto 9, 3) := by decide +kernel
theorem dX1_goOn_114 : decode cX1_goOn 114 = .ok (.aload_n 0, 1) := by decide +kernel
theorem dX1_goOn_115 : decode cX1_goOn 115 = .ok (.aload_n 2, 1) := by decide +kernel
theorem dX1_goOn_116 : decode cX1_goOn 116 = .ok (.aload_n 3, 1) := by decide +kernel
theorem dX1_goOn_117 : decode cX1_goOn 117 = .ok (.invokevirtual 129, 3) := by decide +kernel
theorem dX1_goOn_120 : decode cX1_goOn 120 = .ok (.return_, 1) := by decide +kernel
theorem dX1_takeChair_0 : decode cX1_takeChair 0 = .ok (.aload_n 0, 1) := by decide +kernel
theorem dX1_takeChair_1 : decode cX1_takeChair 1 = .ok (.iload_n 1, 1) := by decide +kernel
theorem dX1_takeChair_2 : decode cX1_takeChair 2 = .ok (.invokevirtual 62, 3) := by decide +kernel
theorem dX1_takeChair_5 : decode cX1_takeChair 5 = .ok (.astore_n 2, 1) := by decide +kernel
theorem dX1_takeChair_6 : decode cX1_takeChair 6 = .ok (.aload_n 2, 1) := by decide +kernel
theorem dX1_takeChair_7 : decode cX1_takeChair 7 = .ok (.ifnull 10, 3) := by decide +kernel
theorem dX1_takeChair_10 : decode cX1_takeChair 10 = .ok (.aload_n 2, 1) := by decide +kernel
theorem dX1_takeChair_11 : decode cX1_takeChair 11 = .ok (.getfield 109, 3) := by decide +kernel
theorem dX1_takeChair_14 : decode cX1_takeChair 14 = .ok (.ifCond .eq 4, 3) := by decide +kernel
theorem dX1_takeChair_17 : decode cX1_takeChair 17 = .ok (.return_, 1) := by decide +kernel
theorem dX1_takeChair_18 : decode cX1_takeChair 18 = .ok (.aload_n 0, 1) := by decide +kernel
theorem dX1_takeChair_19 : decode cX1_takeChair 19 = .ok (.aload_n 2, 1) := by decide +kernel
theorem dX1_takeChair_20 : decode cX1_takeChair 20 = .ok (.getfield 133, 3) := by decide +kernel
theorem dX1_takeChair_23 : decode cX1_takeChair 23 = .ok (.invokevirtual 136, 3) := by decide +kernel
theorem dX1_takeChair_26 : decode cX1_takeChair 26 = .ok (.istore_n 3, 1) := by decide +kernel
theorem dX1_takeChair_27 : decode cX1_takeChair 27 = .ok (.aload_n 0, 1) := by decide +kernel
theorem dX1_takeChair_28 : decode cX1_takeChair 28 = .ok (.iload_n 3, 1) := by decide +kernel
theorem dX1_takeChair_29 : decode cX1_takeChair 29 = .ok (.invokevirtual 54, 3) := by decide +kernel
theorem dX1_takeChair_32 : decode cX1_takeChair 32 = .ok (.astore 4, 2) := by decide +kernel
theorem dX1_takeChair_34 : decode cX1_takeChair 34 = .ok (.aload 4, 2) := by decide +kernel
theorem dX1_takeChair_36 : decode cX1_takeChair 36 = .ok (.ifnonnull 4, 3) := by decide +kernel
theorem dX1_takeChair_39 : decode cX1_takeChair 39 = .ok (.return_, 1) := by decide +kernel
theorem dX1_takeChair_40 : decode cX1_takeChair 40 = .ok (.aload 4, 2) := by decide +kernel
theorem dX1_takeChair_42 : decode cX1_takeChair 42 = .ok (.iconst 1, 1) := by decide +kernel
theorem dX1_takeChair_43 : decode cX1_takeChair 43 = .ok (.putfield 103, 3) := by decide +kernel
theorem dX1_takeChair_46 : decode cX1_takeChair 46 = .ok (.aload 4, 2) := by decide +kernel
theorem dX1_takeChair_48 : decode cX1_takeChair 48 = .ok (.iload_n 1, 1) := by decide +kernel
theorem dX1_takeChair_49 : decode cX1_takeChair 49 = .ok (.putfield 139, 3) := by decide +kernel
theorem dX1_takeChair_52 : decode cX1_takeChair 52 = .ok (.aload_n 2, 1) := by decide +kernel
theorem dX1_takeChair_53 : decode cX1_takeChair 53 = .ok (.iload_n 3, 1) := by decide +kernel
theorem dX1_takeChair_54 : decode cX1_takeChair 54 = .ok (.putfield 122, 3) := by decide +kernel
theorem dX1_takeChair_57 : decode cX1_takeChair 57 = .ok (.aload_n 0, 1) := by decide +kernel
theorem dX1_takeChair_58 : decode cX1_takeChair 58 = .ok (.aload_n 2, 1) := by decide +kernel
theorem dX1_takeChair_59 : decode cX1_takeChair 59 = .ok (.getfield 133, 3) := by decide +kernel
theorem dX1_takeChair_62 : decode cX1_takeChair 62 = .ok (.aload 4, 2) := by decide +kernel
theorem dX1_takeChair_64 : decode cX1_takeChair 64 = .ok (.getfield 142, 3) := by decide +kernel
theorem dX1_takeChair_67 : decode cX1_takeChair 67 = .ok (.invokevirtual 143, 3) := by decide +kernel
theorem dX1_takeChair_70 : decode cX1_takeChair 70 = .ok (.istore 5, 2) := by decide +kernel
theorem dX1_takeChair_72 : decode cX1_takeChair 72 = .ok (.iload 5, 2) := by decide +kernel
theorem dX1_takeChair_74 : decode cX1_takeChair 74 = .ok (.ifCond .ne 14, 3) := by decide +kernel
theorem dX1_takeChair_77 : decode cX1_takeChair 77 = .ok (.aload_n 0, 1) := by decide +kernel
theorem dX1_takeChair_78 : decode cX1_takeChair 78 = .ok (.iload_n 1, 1) := by decide +kernel
theorem dX1_takeChair_79 : decode cX1_takeChair 79 = .ok (.aload_n 2, 1) := by decide +kernel
theorem dX1_takeChair_80 : decode cX1_takeChair 80 = .ok (.aload 4, 2) := by decide +kernel
theorem dX1_takeChair_82 : decode cX1_takeChair 82 = .ok (.invokevirtual 125, 3) := by decide +kernel
theorem dX1_takeChair_85 : decode cX1_takeChair 85 = .ok (.goto 14, 3) := by decide +kernel
theorem dX1_takeChair_88 : decode cX1_takeChair 88 = .ok (.aload_n 2, 1) := by decide +kernel
theorem dX1_takeChair_89 : decode cX1_takeChair 89 = .ok (.iconst 1, 1) := by decide +kernel
theorem dX1_takeChair_90 : decode cX1_takeChair 90 = .ok (.putfield 109, 3) := by decide +kernel
theorem dX1_takeChair_93 : decode cX1_takeChair 93 = .ok (.aload_n 2, 1) := by decide +kernel
theorem dX1_takeChair_94 : decode cX1_takeChair 94 = .ok (.iload 5, 2) := by decide +kernel
theorem dX1_takeChair_96 : decode cX1_takeChair 96 = .ok (.putfield 113, 3) := by decide +kernel
theorem dX1_takeChair_99 : decode cX1_takeChair 99 = .ok (.return_, 1) := by decide +kernel
theorem dX1_bringDown_0 : decode cX1_bringDown 0 = .ok (.aload_n 2, 1) := by decide +kernel
theorem dX1_bringDown_1 : decode cX1_bringDown 1 = .ok (.aload_n 3, 1) := by decide +kernel
theorem dX1_bringDown_2 : decode cX1_bringDown 2 = .ok (.getfield 142, 3) := by decide +kernel
theorem dX1_bringDown_5 : decode cX1_bringDown 5 = .ok (.putfield 133, 3) := by decide +kernel
theorem dX1_bringDown_8 : decode cX1_bringDown 8 = .ok (.aload_n 2, 1) := by decide +kernel
theorem dX1_bringDown_9 : decode cX1_bringDown 9 = .ok (.aload_n 0, 1) := by decide +kernel
theorem dX1_bringDown_10 : decode cX1_bringDown 10 = .ok (.aload_n 3, 1) := by decide +kernel
theorem dX1_bringDown_11 : decode cX1_bringDown 11 = .ok (.iload_n 1, 1) := by decide +kernel
theorem dX1_bringDown_12 : decode cX1_bringDown 12 = .ok (.aload_n 2, 1) := by decide +kernel
theorem dX1_bringDown_13 : decode cX1_bringDown 13 = .ok (.getfield 119, 3) := by decide +kernel
theorem dX1_bringDown_16 : decode cX1_bringDown 16 = .ok (.invokevirtual 146, 3) := by decide +kernel
theorem dX1_bringDown_19 : decode cX1_bringDown 19 = .ok (.putfield 113, 3) := by decide +kernel
theorem dX1_bringDown_22 : decode cX1_bringDown 22 = .ok (.aload_n 2, 1) := by decide +kernel
theorem dX1_bringDown_23 : decode cX1_bringDown 23 = .ok (.iconst 2, 1) := by decide +kernel
theorem dX1_bringDown_24 : decode cX1_bringDown 24 = .ok (.putfield 109, 3) := by decide +kernel
theorem dX1_bringDown_27 : decode cX1_bringDown 27 = .ok (.return_, 1) := by decide +kernel
theorem dX1_finish_0 : decode cX1_finish 0 = .ok (.aload_n 0, 1) := by decide +kernel
theorem dX1_finish_1 : decode cX1_finish 1 = .ok (.getfield 36, 3) := by decide +kernel
theorem dX1_finish_4 : decode cX1_finish 4 = .ok (.iconst 1, 1) := by decide +kernel
theorem dX1_finish_5 : decode cX1_finish 5 = .ok (.iadd, 1) := by decide +kernel
theorem dX1_finish_6 : decode cX1_finish 6 = .ok (.istore_n 3, 1) := by decide +kernel
theorem dX1_finish_7 : decode cX1_finish 7 = .ok (.aload_n 2, 1) := by decide +kernel
theorem dX1_finish_8 : decode cX1_finish 8 = .ok (.getfield 150, 3) := by decide +kernel
theorem dX1_finish_11 : decode cX1_finish 11 = .ok (.iconst (-1), 1) := by decide +kernel
theorem dX1_finish_12 : decode cX1_finish 12 = .ok (.if_icmp .eq 21, 3) := by decide +kernel
theorem dX1_finish_15 : decode cX1_finish 15 = .ok (.iload_n 3, 1) := by decide +kernel
theorem dX1_finish_16 : decode cX1_finish 16 = .ok (.aload_n 2, 1) := by decide +kernel
theorem dX1_finish_17 : decode cX1_finish 17 = .ok (.getfield 150, 3) := by decide +kernel
theorem dX1_finish_20 : decode cX1_finish 20 = .ok (.if_icmp .gt 13, 3) := by decide +kernel
theorem dX1_finish_23 : decode cX1_finish 23 = .ok (.aload_n 0, 1) := by decide +kernel
theorem dX1_finish_24 : decode cX1_finish 24 = .ok (.dup, 1) := by decide +kernel
theorem dX1_finish_25 : decode cX1_finish 25 = .ok (.getfield 48, 3) := by decide +kernel
theorem dX1_finish_28 : decode cX1_finish 28 = .ok (.iconst 1, 1) := by decide +kernel
theorem dX1_finish_29 : decode cX1_finish 29 = .ok (.iadd, 1) := by decide +kernel
theorem dX1_finish_30 : decode cX1_finish 30 = .ok (.putfield 48, 3) := by decide +kernel
theorem dX1_finish_33 : decode cX1_finish 33 = .ok (.aload_n 2, 1) := by decide +kernel
theorem dX1_finish_34 : decode cX1_finish 34 = .ok (.getfield 150, 3) := by decide +kernel
theorem dX1_finish_37 : decode cX1_finish 37 = .ok (.iconst (-1), 1) := by decide +kernel
theorem dX1_finish_38 : decode cX1_finish 38 = .ok (.if_icmp .eq 21, 3) := by decide +kernel
theorem dX1_finish_41 : decode cX1_finish 41 = .ok (.iload_n 3, 1) := by decide +kernel
theorem dX1_finish_42 : decode cX1_finish 42 = .ok (.aload_n 2, 1) := by decide +kernel
theorem dX1_finish_43 : decode cX1_finish 43 = .ok (.getfield 150, 3) := by decide +kernel
theorem dX1_finish_46 : decode cX1_finish 46 = .ok (.if_icmp .le 13, 3) := by decide +kernel
theorem dX1_finish_49 : decode cX1_finish 49 = .ok (.aload_n 0, 1) := by decide +kernel
theorem dX1_finish_50 : decode cX1_finish 50 = .ok (.dup, 1) := by decide +kernel
theorem dX1_finish_51 : decode cX1_finish 51 = .ok (.getfield 51, 3) := by decide +kernel
theorem dX1_finish_54 : decode cX1_finish 54 = .ok (.iconst 1, 1) := by decide +kernel
theorem dX1_finish_55 : decode cX1_finish 55 = .ok (.iadd, 1) := by decide +kernel
theorem dX1_finish_56 : decode cX1_finish 56 = .ok (.putfield 51, 3) := by decide +kernel
theorem dX1_finish_59 : decode cX1_finish 59 = .ok (.aload_n 2, 1) := by decide +kernel
theorem dX1_finish_60 : decode cX1_finish 60 = .ok (.iconst 2, 1) := by decide +kernel
theorem dX1_finish_61 : decode cX1_finish 61 = .ok (.putfield 103, 3) := by decide +kernel
theorem dX1_finish_64 : decode cX1_finish 64 = .ok (.aload_n 2, 1) := by decide +kernel
theorem dX1_finish_65 : decode cX1_finish 65 = .ok (.iload_n 3, 1) := by decide +kernel
theorem dX1_finish_66 : decode cX1_finish 66 = .ok (.putfield 153, 3) := by decide +kernel
theorem dX1_finish_69 : decode cX1_finish 69 = .ok (.aload_n 0, 1) := by decide +kernel
theorem dX1_finish_70 : decode cX1_finish 70 = .ok (.getfield 45, 3) := by decide +kernel
theorem dX1_finish_73 : decode cX1_finish 73 = .ok (.ifCond .lt 28, 3) := by decide +kernel
theorem dX1_finish_76 : decode cX1_finish 76 = .ok (.aload_n 0, 1) := by decide +kernel
theorem dX1_finish_77 : decode cX1_finish 77 = .ok (.getfield 45, 3) := by decide +kernel
theorem dX1_finish_80 : decode cX1_finish 80 = .ok (.aload_n 0, 1) := by decide +kernel
theorem dX1_finish_81 : decode cX1_finish 81 = .ok (.getfield 29, 3) := by decide +kernel
theorem dX1_finish_84 : decode cX1_finish 84 = .ok (.arraylength, 1) := by decide +kernel
theorem dX1_finish_85 : decode cX1_finish 85 = .ok (.if_icmp .ge 16, 3) := by decide +kernel
theorem dX1_finish_88 : decode cX1_finish 88 = .ok (.aload_n 0, 1) := by decide +kernel
theorem dX1_finish_89 : decode cX1_finish 89 = .ok (.getfield 29, 3) := by decide +kernel
theorem dX1_finish_92 : decode cX1_finish 92 = .ok (.aload_n 0, 1) := by decide +kernel
theorem dX1_finish_93 : decode cX1_finish 93 = .ok (.getfield 45, 3) := by decide +kernel
theorem dX1_finish_96 : decode cX1_finish 96 = .ok (.aload_n 1, 1) := by decide +kernel
theorem dX1_finish_97 : decode cX1_finish 97 = .ok (.getfield 122, 3) := by decide +kernel
theorem dX1_finish_100 : decode cX1_finish 100 = .ok (.iastore, 1) := by decide +kernel
theorem dX1_finish_101 : decode cX1_finish 101 = .ok (.aload_n 0, 1) := by decide +kernel
theorem dX1_finish_102 : decode cX1_finish 102 = .ok (.dup, 1) := by decide +kernel
theorem dX1_finish_103 : decode cX1_finish 103 = .ok (.getfield 45, 3) := by decide +kernel
theorem dX1_finish_106 : decode cX1_finish 106 = .ok (.iconst 1, 1) := by decide +kernel
theorem dX1_finish_107 : decode cX1_finish 107 = .ok (.iadd, 1) := by decide +kernel
theorem dX1_finish_108 : decode cX1_finish 108 = .ok (.putfield 45, 3) := by decide +kernel
theorem dX1_finish_111 : decode cX1_finish 111 = .ok (.aload_n 1, 1) := by decide +kernel
theorem dX1_finish_112 : decode cX1_finish 112 = .ok (.dup, 1) := by decide +kernel
theorem dX1_finish_113 : decode cX1_finish 113 = .ok (.getfield 154, 3) := by decide +kernel
theorem dX1_finish_116 : decode cX1_finish 116 = .ok (.iconst 1, 1) := by decide +kernel
theorem dX1_finish_117 : decode cX1_finish 117 = .ok (.iadd, 1) := by decide +kernel
theorem dX1_finish_118 : decode cX1_finish 118 = .ok (.putfield 154, 3) := by decide +kernel
theorem dX1_finish_121 : decode cX1_finish 121 = .ok (.aload_n 1, 1) := by decide +kernel
theorem dX1_finish_122 : decode cX1_finish 122 = .ok (.dup, 1) := by decide +kernel
theorem dX1_finish_123 : decode cX1_finish 123 = .ok (.getfield 156, 3) := by decide +kernel
theorem dX1_finish_126 : decode cX1_finish 126 = .ok (.aload_n 2, 1) := by decide +kernel
theorem dX1_finish_127 : decode cX1_finish 127 = .ok (.getfield 159, 3) := by decide +kernel
theorem dX1_finish_130 : decode cX1_finish 130 = .ok (.iadd, 1) := by decide +kernel
theorem dX1_finish_131 : decode cX1_finish 131 = .ok (.putfield 156, 3) := by decide +kernel
theorem dX1_finish_134 : decode cX1_finish 134 = .ok (.aload_n 1, 1) := by decide +kernel
theorem dX1_finish_135 : decode cX1_finish 135 = .ok (.bipush 30, 2) := by decide +kernel
theorem dX1_finish_137 : decode cX1_finish 137 = .ok (.aload_n 1, 1) := by decide +kernel
theorem dX1_finish_138 : decode cX1_finish 138 = .ok (.getfield 119, 3) := by decide +kernel
theorem dX1_finish_141 : decode cX1_finish 141 = .ok (.aload_n 2, 1) := by decide +kernel
theorem dX1_finish_142 : decode cX1_finish 142 = .ok (.getfield 159, 3) := by decide +kernel
theorem dX1_finish_145 : decode cX1_finish 145 = .ok (.iadd, 1) := by decide +kernel
theorem dX1_finish_146 : decode cX1_finish 146 = .ok (.invokestatic 75, 3) := by decide +kernel
theorem dX1_finish_149 : decode cX1_finish 149 = .ok (.putfield 119, 3) := by decide +kernel
theorem dX1_finish_152 : decode cX1_finish 152 = .ok (.aload_n 1, 1) := by decide +kernel
theorem dX1_finish_153 : decode cX1_finish 153 = .ok (.invokevirtual 116, 3) := by decide +kernel
theorem dX1_finish_156 : decode cX1_finish 156 = .ok (.aload_n 1, 1) := by decide +kernel
theorem dX1_finish_157 : decode cX1_finish 157 = .ok (.getfield 119, 3) := by decide +kernel
theorem dX1_finish_160 : decode cX1_finish 160 = .ok (.bipush 10, 2) := by decide +kernel
theorem dX1_finish_162 : decode cX1_finish 162 = .ok (.if_icmp .lt 13, 3) := by decide +kernel
theorem dX1_finish_165 : decode cX1_finish 165 = .ok (.aload_n 1, 1) := by decide +kernel
theorem dX1_finish_166 : decode cX1_finish 166 = .ok (.iconst 3, 1) := by decide +kernel
theorem dX1_finish_167 : decode cX1_finish 167 = .ok (.putfield 109, 3) := by decide +kernel
theorem dX1_finish_170 : decode cX1_finish 170 = .ok (.aload_n 1, 1) := by decide +kernel
theorem dX1_finish_171 : decode cX1_finish 171 = .ok (.iconst 5, 1) := by decide +kernel
theorem dX1_finish_172 : decode cX1_finish 172 = .ok (.putfield 113, 3) := by decide +kernel
theorem dX1_finish_175 : decode cX1_finish 175 = .ok (.return_, 1) := by decide +kernel
theorem dX1_workOf_0 : decode cX1_workOf 0 = .ok (.iconst 2, 1) := by decide +kernel
theorem dX1_workOf_1 : decode cX1_workOf 1 = .ok (.aload_n 1, 1) := by decide +kernel
theorem dX1_workOf_2 : decode cX1_workOf 2 = .ok (.getfield 159, 3) := by decide +kernel
theorem dX1_workOf_5 : decode cX1_workOf 5 = .ok (.iconst 1, 1) := by decide +kernel
theorem dX1_workOf_6 : decode cX1_workOf 6 = .ok (.iload_n 3, 1) := by decide +kernel
theorem dX1_workOf_7 : decode cX1_workOf 7 = .ok (.iconst 5, 1) := by decide +kernel
theorem dX1_workOf_8 : decode cX1_workOf 8 = .ok (.idiv, 1) := by decide +kernel
theorem dX1_workOf_9 : decode cX1_workOf 9 = .ok (.iadd, 1) := by decide +kernel
theorem dX1_workOf_10 : decode cX1_workOf 10 = .ok (.imul, 1) := by decide +kernel
theorem dX1_workOf_11 : decode cX1_workOf 11 = .ok (.iadd, 1) := by decide +kernel
theorem dX1_workOf_12 : decode cX1_workOf 12 = .ok (.istore 4, 2) := by decide +kernel
theorem dX1_workOf_14 : decode cX1_workOf 14 = .ok (.iconst 0, 1) := by decide +kernel
theorem dX1_workOf_15 : decode cX1_workOf 15 = .ok (.istore 5, 2) := by decide +kernel
theorem dX1_workOf_17 : decode cX1_workOf 17 = .ok (.iload 5, 2) := by decide +kernel
theorem dX1_workOf_19 : decode cX1_workOf 19 = .ok (.aload_n 0, 1) := by decide +kernel
theorem dX1_workOf_20 : decode cX1_workOf 20 = .ok (.getfield 42, 3) := by decide +kernel
theorem dX1_workOf_23 : decode cX1_workOf 23 = .ok (.if_icmp .ge 58, 3) := by decide +kernel
theorem dX1_workOf_26 : decode cX1_workOf 26 = .ok (.aload_n 0, 1) := by decide +kernel
theorem dX1_workOf_27 : decode cX1_workOf 27 = .ok (.iload 5, 2) := by decide +kernel
theorem dX1_workOf_29 : decode cX1_workOf 29 = .ok (.invokevirtual 62, 3) := by decide +kernel
theorem dX1_workOf_32 : decode cX1_workOf 32 = .ok (.astore 6, 2) := by decide +kernel
theorem dX1_workOf_34 : decode cX1_workOf 34 = .ok (.aload 6, 2) := by decide +kernel
theorem dX1_workOf_36 : decode cX1_workOf 36 = .ok (.ifnull 39, 3) := by decide +kernel
theorem dX1_workOf_39 : decode cX1_workOf 39 = .ok (.iload 5, 2) := by decide +kernel
theorem dX1_workOf_41 : decode cX1_workOf 41 = .ok (.iload_n 2, 1) := by decide +kernel
theorem dX1_workOf_42 : decode cX1_workOf 42 = .ok (.if_icmp .eq 33, 3) := by decide +kernel
theorem dX1_workOf_45 : decode cX1_workOf 45 = .ok (.aload 6, 2) := by decide +kernel
theorem dX1_workOf_47 : decode cX1_workOf 47 = .ok (.getfield 109, 3) := by decide +kernel
theorem dX1_workOf_50 : decode cX1_workOf 50 = .ok (.iconst 2, 1) := by decide +kernel
theorem dX1_workOf_51 : decode cX1_workOf 51 = .ok (.if_icmp .ne 24, 3) := by decide +kernel
theorem dX1_workOf_54 : decode cX1_workOf 54 = .ok (.aload 6, 2) := by decide +kernel
theorem dX1_workOf_56 : decode cX1_workOf 56 = .ok (.getfield 133, 3) := by decide +kernel
theorem dX1_workOf_59 : decode cX1_workOf 59 = .ok (.aload_n 1, 1) := by decide +kernel
theorem dX1_workOf_60 : decode cX1_workOf 60 = .ok (.getfield 142, 3) := by decide +kernel
theorem dX1_workOf_63 : decode cX1_workOf 63 = .ok (.if_icmp .ne 12, 3) := by decide +kernel
theorem dX1_workOf_66 : decode cX1_workOf 66 = .ok (.iconst 1, 1) := by decide +kernel
theorem dX1_workOf_67 : decode cX1_workOf 67 = .ok (.iload 4, 2) := by decide +kernel
theorem dX1_workOf_69 : decode cX1_workOf 69 = .ok (.iconst 1, 1) := by decide +kernel
theorem dX1_workOf_70 : decode cX1_workOf 70 = .ok (.isub, 1) := by decide +kernel
theorem dX1_workOf_71 : decode cX1_workOf 71 = .ok (.invokestatic 69, 3) := by decide +kernel
theorem dX1_workOf_74 : decode cX1_workOf 74 = .ok (.ireturn, 1) := by decide +kernel
theorem dX1_workOf_75 : decode cX1_workOf 75 = .ok (.iinc 5 1, 3) := by decide +kernel
theorem dX1_workOf_78 : decode cX1_workOf 78 = .ok (.goto (-61), 3) := by decide +kernel
theorem dX1_workOf_81 : decode cX1_workOf 81 = .ok (.iload 4, 2) := by decide +kernel
theorem dX1_workOf_83 : decode cX1_workOf 83 = .ok (.ireturn, 1) := by decide +kernel
theorem dX1_choiceFrom_0 : decode cX1_choiceFrom 0 = .ok (.iconst (-1), 1) := by decide +kernel
theorem dX1_choiceFrom_1 : decode cX1_choiceFrom 1 = .ok (.istore_n 2, 1) := by decide +kernel
theorem dX1_choiceFrom_2 : decode cX1_choiceFrom 2 = .ok (.iconst 0, 1) := by decide +kernel
theorem dX1_choiceFrom_3 : decode cX1_choiceFrom 3 = .ok (.istore_n 3, 1) := by decide +kernel
theorem dX1_choiceFrom_4 : decode cX1_choiceFrom 4 = .ok (.iconst 0, 1) := by decide +kernel
theorem dX1_choiceFrom_5 : decode cX1_choiceFrom 5 = .ok (.istore 4, 2) := by decide +kernel
theorem dX1_choiceFrom_7 : decode cX1_choiceFrom 7 = .ok (.iconst 0, 1) := by decide +kernel
theorem dX1_choiceFrom_8 : decode cX1_choiceFrom 8 = .ok (.istore 5, 2) := by decide +kernel
theorem dX1_choiceFrom_10 : decode cX1_choiceFrom 10 = .ok (.iload 5, 2) := by decide +kernel
theorem dX1_choiceFrom_12 : decode cX1_choiceFrom 12 = .ok (.aload_n 0, 1) := by decide +kernel
theorem dX1_choiceFrom_13 : decode cX1_choiceFrom 13 = .ok (.getfield 39, 3) := by decide +kernel
theorem dX1_choiceFrom_16 : decode cX1_choiceFrom 16 = .ok (.if_icmp .ge 83, 3) := by decide +kernel
theorem dX1_choiceFrom_19 : decode cX1_choiceFrom 19 = .ok (.aload_n 0, 1) := by decide +kernel
theorem dX1_choiceFrom_20 : decode cX1_choiceFrom 20 = .ok (.iload 5, 2) := by decide +kernel
theorem dX1_choiceFrom_22 : decode cX1_choiceFrom 22 = .ok (.invokevirtual 54, 3) := by decide +kernel
theorem dX1_choiceFrom_25 : decode cX1_choiceFrom 25 = .ok (.astore 6, 2) := by decide +kernel
theorem dX1_choiceFrom_27 : decode cX1_choiceFrom 27 = .ok (.aload 6, 2) := by decide +kernel
theorem dX1_choiceFrom_29 : decode cX1_choiceFrom 29 = .ok (.ifnull 64, 3) := by decide +kernel
theorem dX1_choiceFrom_32 : decode cX1_choiceFrom 32 = .ok (.aload 6, 2) := by decide +kernel
theorem dX1_choiceFrom_34 : decode cX1_choiceFrom 34 = .ok (.getfield 103, 3) := by decide +kernel
theorem dX1_choiceFrom_37 : decode cX1_choiceFrom 37 = .ok (.ifCond .ne 56, 3) := by decide +kernel
theorem dX1_choiceFrom_40 : decode cX1_choiceFrom 40 = .ok (.aload 6, 2) := by decide +kernel
theorem dX1_choiceFrom_42 : decode cX1_choiceFrom 42 = .ok (.invokevirtual 162, 3) := by decide +kernel
theorem dX1_choiceFrom_45 : decode cX1_choiceFrom 45 = .ok (.istore 7, 2) := by decide +kernel
theorem dX1_choiceFrom_47 : decode cX1_choiceFrom 47 = .ok (.aload_n 0, 1) := by decide +kernel
theorem dX1_choiceFrom_48 : decode cX1_choiceFrom 48 = .ok (.iload_n 1, 1) := by decide +kernel
theorem dX1_choiceFrom_49 : decode cX1_choiceFrom 49 = .ok (.aload 6, 2) := by decide +kernel
theorem dX1_choiceFrom_51 : decode cX1_choiceFrom 51 = .ok (.getfield 142, 3) := by decide +kernel
theorem dX1_choiceFrom_54 : decode cX1_choiceFrom 54 = .ok (.invokevirtual 143, 3) := by decide +kernel
theorem dX1_choiceFrom_57 : decode cX1_choiceFrom 57 = .ok (.istore 8, 2) := by decide +kernel
theorem dX1_choiceFrom_59 : decode cX1_choiceFrom 59 = .ok (.iload_n 2, 1) := by decide +kernel
theorem dX1_choiceFrom_60 : decode cX1_choiceFrom 60 = .ok (.iconst (-1), 1) := by decide +kernel
theorem dX1_choiceFrom_61 : decode cX1_choiceFrom 61 = .ok (.if_icmp .eq 22, 3) := by decide +kernel
theorem dX1_choiceFrom_64 : decode cX1_choiceFrom 64 = .ok (.iload 7, 2) := by decide +kernel
theorem dX1_choiceFrom_66 : decode cX1_choiceFrom 66 = .ok (.iload_n 3, 1) := by decide +kernel
theorem dX1_choiceFrom_67 : decode cX1_choiceFrom 67 = .ok (.if_icmp .gt 16, 3) := by decide +kernel
theorem dX1_choiceFrom_70 : decode cX1_choiceFrom 70 = .ok (.iload 7, 2) := by decide +kernel
theorem dX1_choiceFrom_72 : decode cX1_choiceFrom 72 = .ok (.iload_n 3, 1) := by decide +kernel
theorem dX1_choiceFrom_73 : decode cX1_choiceFrom 73 = .ok (.if_icmp .ne 20, 3) := by decide +kernel
theorem dX1_choiceFrom_76 : decode cX1_choiceFrom 76 = .ok (.iload 8, 2) := by decide +kernel
theorem dX1_choiceFrom_78 : decode cX1_choiceFrom 78 = .ok (.iload 4, 2) := by decide +kernel
theorem dX1_choiceFrom_80 : decode cX1_choiceFrom 80 = .ok (.if_icmp .ge 13, 3) := by decide +kernel
theorem dX1_choiceFrom_83 : decode cX1_choiceFrom 83 = .ok (.iload 5, 2) := by decide +kernel
theorem dX1_choiceFrom_85 : decode cX1_choiceFrom 85 = .ok (.istore_n 2, 1) := by decide +kernel
theorem dX1_choiceFrom_86 : decode cX1_choiceFrom 86 = .ok (.iload 7, 2) := by decide +kernel
theorem dX1_choiceFrom_88 : decode cX1_choiceFrom 88 = .ok (.istore_n 3, 1) := by decide +kernel
theorem dX1_choiceFrom_89 : decode cX1_choiceFrom 89 = .ok (.iload 8, 2) := by decide +kernel
theorem dX1_choiceFrom_91 : decode cX1_choiceFrom 91 = .ok (.istore 4, 2) := by decide +kernel
theorem dX1_choiceFrom_93 : decode cX1_choiceFrom 93 = .ok (.iinc 5 1, 3) := by decide +kernel
theorem dX1_choiceFrom_96 : decode cX1_choiceFrom 96 = .ok (.goto (-86), 3) := by decide +kernel
theorem dX1_choiceFrom_99 : decode cX1_choiceFrom 99 = .ok (.iload_n 2, 1) := by decide +kernel
theorem dX1_choiceFrom_100 : decode cX1_choiceFrom 100 = .ok (.ireturn, 1) := by decide +kernel
theorem dX1_fact_0 : decode cX1_fact 0 = .ok (.iload_n 1, 1) := by decide +kernel
theorem dX1_fact_1 : decode cX1_fact 1 = .ok (.tableswitch 125 0 10 #[59, 64, 69, 74, 79, 85, 91, 97, 109, 115, 120], 59) := by decide +kernel
theorem dX1_fact_60 : decode cX1_fact 60 = .ok (.aload_n 0, 1) := by decide +kernel
theorem dX1_fact_61 : decode cX1_fact 61 = .ok (.getfield 32, 3) := by decide +kernel
theorem dX1_fact_64 : decode cX1_fact 64 = .ok (.ireturn, 1) := by decide +kernel
theorem dX1_fact_65 : decode cX1_fact 65 = .ok (.aload_n 0, 1) := by decide +kernel
theorem dX1_fact_66 : decode cX1_fact 66 = .ok (.getfield 39, 3) := by decide +kernel
theorem dX1_fact_69 : decode cX1_fact 69 = .ok (.ireturn, 1) := by decide +kernel
theorem dX1_fact_70 : decode cX1_fact 70 = .ok (.aload_n 0, 1) := by decide +kernel
theorem dX1_fact_71 : decode cX1_fact 71 = .ok (.getfield 42, 3) := by decide +kernel
theorem dX1_fact_74 : decode cX1_fact 74 = .ok (.ireturn, 1) := by decide +kernel
theorem dX1_fact_75 : decode cX1_fact 75 = .ok (.aload_n 0, 1) := by decide +kernel
theorem dX1_fact_76 : decode cX1_fact 76 = .ok (.getfield 36, 3) := by decide +kernel
theorem dX1_fact_79 : decode cX1_fact 79 = .ok (.ireturn, 1) := by decide +kernel
theorem dX1_fact_80 : decode cX1_fact 80 = .ok (.aload_n 0, 1) := by decide +kernel
theorem dX1_fact_81 : decode cX1_fact 81 = .ok (.iconst 0, 1) := by decide +kernel
theorem dX1_fact_82 : decode cX1_fact 82 = .ok (.invokevirtual 166, 3) := by decide +kernel
theorem dX1_fact_85 : decode cX1_fact 85 = .ok (.ireturn, 1) := by decide +kernel
theorem dX1_fact_86 : decode cX1_fact 86 = .ok (.aload_n 0, 1) := by decide +kernel
theorem dX1_fact_87 : decode cX1_fact 87 = .ok (.iconst 1, 1) := by decide +kernel
theorem dX1_fact_88 : decode cX1_fact 88 = .ok (.invokevirtual 166, 3) := by decide +kernel
theorem dX1_fact_91 : decode cX1_fact 91 = .ok (.ireturn, 1) := by decide +kernel
theorem dX1_fact_92 : decode cX1_fact 92 = .ok (.aload_n 0, 1) := by decide +kernel
theorem dX1_fact_93 : decode cX1_fact 93 = .ok (.iconst 2, 1) := by decide +kernel
theorem dX1_fact_94 : decode cX1_fact 94 = .ok (.invokevirtual 166, 3) := by decide +kernel
theorem dX1_fact_97 : decode cX1_fact 97 = .ok (.ireturn, 1) := by decide +kernel
theorem dX1_fact_98 : decode cX1_fact 98 = .ok (.aload_n 0, 1) := by decide +kernel
theorem dX1_fact_99 : decode cX1_fact 99 = .ok (.iconst 0, 1) := by decide +kernel
theorem dX1_fact_100 : decode cX1_fact 100 = .ok (.invokevirtual 169, 3) := by decide +kernel
theorem dX1_fact_103 : decode cX1_fact 103 = .ok (.aload_n 0, 1) := by decide +kernel
theorem dX1_fact_104 : decode cX1_fact 104 = .ok (.iconst 1, 1) := by decide +kernel
theorem dX1_fact_105 : decode cX1_fact 105 = .ok (.invokevirtual 169, 3) := by decide +kernel
theorem dX1_fact_108 : decode cX1_fact 108 = .ok (.iadd, 1) := by decide +kernel
theorem dX1_fact_109 : decode cX1_fact 109 = .ok (.ireturn, 1) := by decide +kernel
theorem dX1_fact_110 : decode cX1_fact 110 = .ok (.aload_n 0, 1) := by decide +kernel
theorem dX1_fact_111 : decode cX1_fact 111 = .ok (.iconst 2, 1) := by decide +kernel
theorem dX1_fact_112 : decode cX1_fact 112 = .ok (.invokevirtual 169, 3) := by decide +kernel
theorem dX1_fact_115 : decode cX1_fact 115 = .ok (.ireturn, 1) := by decide +kernel
theorem dX1_fact_116 : decode cX1_fact 116 = .ok (.aload_n 0, 1) := by decide +kernel
theorem dX1_fact_117 : decode cX1_fact 117 = .ok (.getfield 48, 3) := by decide +kernel
theorem dX1_fact_120 : decode cX1_fact 120 = .ok (.ireturn, 1) := by decide +kernel
theorem dX1_fact_121 : decode cX1_fact 121 = .ok (.aload_n 0, 1) := by decide +kernel
theorem dX1_fact_122 : decode cX1_fact 122 = .ok (.getfield 51, 3) := by decide +kernel
theorem dX1_fact_125 : decode cX1_fact 125 = .ok (.ireturn, 1) := by decide +kernel
theorem dX1_fact_126 : decode cX1_fact 126 = .ok (.aload_n 0, 1) := by decide +kernel
theorem dX1_fact_127 : decode cX1_fact 127 = .ok (.invokevirtual 172, 3) := by decide +kernel
theorem dX1_fact_130 : decode cX1_fact 130 = .ok (.ireturn, 1) := by decide +kernel
theorem dX1_chairsIn_0 : decode cX1_chairsIn 0 = .ok (.iconst 0, 1) := by decide +kernel
theorem dX1_chairsIn_1 : decode cX1_chairsIn 1 = .ok (.istore_n 2, 1) := by decide +kernel
theorem dX1_chairsIn_2 : decode cX1_chairsIn 2 = .ok (.iconst 0, 1) := by decide +kernel
theorem dX1_chairsIn_3 : decode cX1_chairsIn 3 = .ok (.istore_n 3, 1) := by decide +kernel
theorem dX1_chairsIn_4 : decode cX1_chairsIn 4 = .ok (.iload_n 3, 1) := by decide +kernel
theorem dX1_chairsIn_5 : decode cX1_chairsIn 5 = .ok (.aload_n 0, 1) := by decide +kernel
theorem dX1_chairsIn_6 : decode cX1_chairsIn 6 = .ok (.getfield 39, 3) := by decide +kernel
theorem dX1_chairsIn_9 : decode cX1_chairsIn 9 = .ok (.if_icmp .ge 33, 3) := by decide +kernel
theorem dX1_chairsIn_12 : decode cX1_chairsIn 12 = .ok (.aload_n 0, 1) := by decide +kernel
theorem dX1_chairsIn_13 : decode cX1_chairsIn 13 = .ok (.iload_n 3, 1) := by decide +kernel
theorem dX1_chairsIn_14 : decode cX1_chairsIn 14 = .ok (.invokevirtual 54, 3) := by decide +kernel
theorem dX1_chairsIn_17 : decode cX1_chairsIn 17 = .ok (.astore 4, 2) := by decide +kernel
theorem dX1_chairsIn_19 : decode cX1_chairsIn 19 = .ok (.aload 4, 2) := by decide +kernel
theorem dX1_chairsIn_21 : decode cX1_chairsIn 21 = .ok (.ifnull 15, 3) := by decide +kernel
theorem dX1_chairsIn_24 : decode cX1_chairsIn 24 = .ok (.aload 4, 2) := by decide +kernel
theorem dX1_chairsIn_26 : decode cX1_chairsIn 26 = .ok (.getfield 103, 3) := by decide +kernel
theorem dX1_chairsIn_29 : decode cX1_chairsIn 29 = .ok (.iload_n 1, 1) := by decide +kernel
theorem dX1_chairsIn_30 : decode cX1_chairsIn 30 = .ok (.if_icmp .ne 6, 3) := by decide +kernel
theorem dX1_chairsIn_33 : decode cX1_chairsIn 33 = .ok (.iinc 2 1, 3) := by decide +kernel
theorem dX1_chairsIn_36 : decode cX1_chairsIn 36 = .ok (.iinc 3 1, 3) := by decide +kernel
theorem dX1_chairsIn_39 : decode cX1_chairsIn 39 = .ok (.goto (-35), 3) := by decide +kernel
theorem dX1_chairsIn_42 : decode cX1_chairsIn 42 = .ok (.iload_n 2, 1) := by decide +kernel
theorem dX1_chairsIn_43 : decode cX1_chairsIn 43 = .ok (.ireturn, 1) := by decide +kernel
theorem dX1_ridersIn_0 : decode cX1_ridersIn 0 = .ok (.iconst 0, 1) := by decide +kernel
theorem dX1_ridersIn_1 : decode cX1_ridersIn 1 = .ok (.istore_n 2, 1) := by decide +kernel
theorem dX1_ridersIn_2 : decode cX1_ridersIn 2 = .ok (.iconst 0, 1) := by decide +kernel
theorem dX1_ridersIn_3 : decode cX1_ridersIn 3 = .ok (.istore_n 3, 1) := by decide +kernel
theorem dX1_ridersIn_4 : decode cX1_ridersIn 4 = .ok (.iload_n 3, 1) := by decide +kernel
theorem dX1_ridersIn_5 : decode cX1_ridersIn 5 = .ok (.aload_n 0, 1) := by decide +kernel
theorem dX1_ridersIn_6 : decode cX1_ridersIn 6 = .ok (.getfield 39, 3) := by decide +kernel
theorem dX1_ridersIn_9 : decode cX1_ridersIn 9 = .ok (.if_icmp .ge 38, 3) := by decide +kernel
theorem dX1_ridersIn_12 : decode cX1_ridersIn 12 = .ok (.aload_n 0, 1) := by decide +kernel
theorem dX1_ridersIn_13 : decode cX1_ridersIn 13 = .ok (.iload_n 3, 1) := by decide +kernel
theorem dX1_ridersIn_14 : decode cX1_ridersIn 14 = .ok (.invokevirtual 54, 3) := by decide +kernel
theorem dX1_ridersIn_17 : decode cX1_ridersIn 17 = .ok (.astore 4, 2) := by decide +kernel
theorem dX1_ridersIn_19 : decode cX1_ridersIn 19 = .ok (.aload 4, 2) := by decide +kernel
theorem dX1_ridersIn_21 : decode cX1_ridersIn 21 = .ok (.ifnull 20, 3) := by decide +kernel
theorem dX1_ridersIn_24 : decode cX1_ridersIn 24 = .ok (.aload 4, 2) := by decide +kernel
theorem dX1_ridersIn_26 : decode cX1_ridersIn 26 = .ok (.getfield 103, 3) := by decide +kernel
theorem dX1_ridersIn_29 : decode cX1_ridersIn 29 = .ok (.iload_n 1, 1) := by decide +kernel
theorem dX1_ridersIn_30 : decode cX1_ridersIn 30 = .ok (.if_icmp .ne 11, 3) := by decide +kernel
theorem dX1_ridersIn_33 : decode cX1_ridersIn 33 = .ok (.iload_n 2, 1) := by decide +kernel
theorem dX1_ridersIn_34 : decode cX1_ridersIn 34 = .ok (.aload 4, 2) := by decide +kernel
theorem dX1_ridersIn_36 : decode cX1_ridersIn 36 = .ok (.getfield 159, 3) := by decide +kernel
theorem dX1_ridersIn_39 : decode cX1_ridersIn 39 = .ok (.iadd, 1) := by decide +kernel
theorem dX1_ridersIn_40 : decode cX1_ridersIn 40 = .ok (.istore_n 2, 1) := by decide +kernel
theorem dX1_ridersIn_41 : decode cX1_ridersIn 41 = .ok (.iinc 3 1, 3) := by decide +kernel
theorem dX1_ridersIn_44 : decode cX1_ridersIn 44 = .ok (.goto (-40), 3) := by decide +kernel
theorem dX1_ridersIn_47 : decode cX1_ridersIn 47 = .ok (.iload_n 2, 1) := by decide +kernel
theorem dX1_ridersIn_48 : decode cX1_ridersIn 48 = .ok (.ireturn, 1) := by decide +kernel
theorem dX1_greatestRank_0 : decode cX1_greatestRank 0 = .ok (.iconst (-1), 1) := by decide +kernel
theorem dX1_greatestRank_1 : decode cX1_greatestRank 1 = .ok (.istore_n 1, 1) := by decide +kernel
theorem dX1_greatestRank_2 : decode cX1_greatestRank 2 = .ok (.iconst 0, 1) := by decide +kernel
theorem dX1_greatestRank_3 : decode cX1_greatestRank 3 = .ok (.istore_n 2, 1) := by decide +kernel
theorem dX1_greatestRank_4 : decode cX1_greatestRank 4 = .ok (.iload_n 2, 1) := by decide +kernel
theorem dX1_greatestRank_5 : decode cX1_greatestRank 5 = .ok (.aload_n 0, 1) := by decide +kernel
theorem dX1_greatestRank_6 : decode cX1_greatestRank 6 = .ok (.getfield 39, 3) := by decide +kernel
theorem dX1_greatestRank_9 : decode cX1_greatestRank 9 = .ok (.if_icmp .ge 35, 3) := by decide +kernel
theorem dX1_greatestRank_12 : decode cX1_greatestRank 12 = .ok (.aload_n 0, 1) := by decide +kernel
theorem dX1_greatestRank_13 : decode cX1_greatestRank 13 = .ok (.iload_n 2, 1) := by decide +kernel
theorem dX1_greatestRank_14 : decode cX1_greatestRank 14 = .ok (.invokevirtual 54, 3) := by decide +kernel
theorem dX1_greatestRank_17 : decode cX1_greatestRank 17 = .ok (.astore_n 3, 1) := by decide +kernel
theorem dX1_greatestRank_18 : decode cX1_greatestRank 18 = .ok (.aload_n 3, 1) := by decide +kernel
theorem dX1_greatestRank_19 : decode cX1_greatestRank 19 = .ok (.ifnull 19, 3) := by decide +kernel
theorem dX1_greatestRank_22 : decode cX1_greatestRank 22 = .ok (.aload_n 3, 1) := by decide +kernel
theorem dX1_greatestRank_23 : decode cX1_greatestRank 23 = .ok (.getfield 103, 3) := by decide +kernel
theorem dX1_greatestRank_26 : decode cX1_greatestRank 26 = .ok (.ifCond .ne 12, 3) := by decide +kernel
theorem dX1_greatestRank_29 : decode cX1_greatestRank 29 = .ok (.iload_n 1, 1) := by decide +kernel
theorem dX1_greatestRank_30 : decode cX1_greatestRank 30 = .ok (.aload_n 3, 1) := by decide +kernel
theorem dX1_greatestRank_31 : decode cX1_greatestRank 31 = .ok (.invokevirtual 162, 3) := by decide +kernel
theorem dX1_greatestRank_34 : decode cX1_greatestRank 34 = .ok (.invokestatic 69, 3) := by decide +kernel
theorem dX1_greatestRank_37 : decode cX1_greatestRank 37 = .ok (.istore_n 1, 1) := by decide +kernel
theorem dX1_greatestRank_38 : decode cX1_greatestRank 38 = .ok (.iinc 2 1, 3) := by decide +kernel
theorem dX1_greatestRank_41 : decode cX1_greatestRank 41 = .ok (.goto (-37), 3) := by decide +kernel
theorem dX1_greatestRank_44 : decode cX1_greatestRank 44 = .ok (.iload_n 1, 1) := by decide +kernel
theorem dX1_greatestRank_45 : decode cX1_greatestRank 45 = .ok (.ireturn, 1) := by decide +kernel
theorem dX2_init_0 : decode cX2_init 0 = .ok (.aload_n 0, 1) := by decide +kernel
theorem dX2_init_1 : decode cX2_init 1 = .ok (.invokespecial 3, 3) := by decide +kernel
theorem dX2_init_4 : decode cX2_init 4 = .ok (.return_, 1) := by decide +kernel
theorem dX2_stand_0 : decode cX2_stand 0 = .ok (.aload_n 0, 1) := by decide +kernel
theorem dX2_stand_1 : decode cX2_stand 1 = .ok (.iload_n 1, 1) := by decide +kernel
theorem dX2_stand_2 : decode cX2_stand 2 = .ok (.putfield 9, 3) := by decide +kernel
theorem dX2_stand_5 : decode cX2_stand 5 = .ok (.aload_n 0, 1) := by decide +kernel
theorem dX2_stand_6 : decode cX2_stand 6 = .ok (.iload_n 2, 1) := by decide +kernel
theorem dX2_stand_7 : decode cX2_stand 7 = .ok (.putfield 15, 3) := by decide +kernel
theorem dX2_stand_10 : decode cX2_stand 10 = .ok (.aload_n 0, 1) := by decide +kernel
theorem dX2_stand_11 : decode cX2_stand 11 = .ok (.iconst 0, 1) := by decide +kernel
theorem dX2_stand_12 : decode cX2_stand 12 = .ok (.putfield 18, 3) := by decide +kernel
theorem dX2_stand_15 : decode cX2_stand 15 = .ok (.aload_n 0, 1) := by decide +kernel
theorem dX2_stand_16 : decode cX2_stand 16 = .ok (.iconst 0, 1) := by decide +kernel
theorem dX2_stand_17 : decode cX2_stand 17 = .ok (.putfield 21, 3) := by decide +kernel
theorem dX2_stand_20 : decode cX2_stand 20 = .ok (.aload_n 0, 1) := by decide +kernel
theorem dX2_stand_21 : decode cX2_stand 21 = .ok (.iconst 0, 1) := by decide +kernel
theorem dX2_stand_22 : decode cX2_stand 22 = .ok (.putfield 24, 3) := by decide +kernel
theorem dX2_stand_25 : decode cX2_stand 25 = .ok (.aload_n 0, 1) := by decide +kernel
theorem dX2_stand_26 : decode cX2_stand 26 = .ok (.invokevirtual 27, 3) := by decide +kernel
theorem dX2_stand_29 : decode cX2_stand 29 = .ok (.return_, 1) := by decide +kernel
theorem dX2_beIdle_0 : decode cX2_beIdle 0 = .ok (.aload_n 0, 1) := by decide +kernel
theorem dX2_beIdle_1 : decode cX2_beIdle 1 = .ok (.iconst 0, 1) := by decide +kernel
theorem dX2_beIdle_2 : decode cX2_beIdle 2 = .ok (.putfield 30, 3) := by decide +kernel
theorem dX2_beIdle_5 : decode cX2_beIdle 5 = .ok (.aload_n 0, 1) := by decide +kernel
theorem dX2_beIdle_6 : decode cX2_beIdle 6 = .ok (.iconst 0, 1) := by decide +kernel
theorem dX2_beIdle_7 : decode cX2_beIdle 7 = .ok (.putfield 33, 3) := by decide +kernel
theorem dX2_beIdle_10 : decode cX2_beIdle 10 = .ok (.aload_n 0, 1) := by decide +kernel
theorem dX2_beIdle_11 : decode cX2_beIdle 11 = .ok (.iconst (-1), 1) := by decide +kernel
theorem dX2_beIdle_12 : decode cX2_beIdle 12 = .ok (.putfield 36, 3) := by decide +kernel
theorem dX2_beIdle_15 : decode cX2_beIdle 15 = .ok (.return_, 1) := by decide +kernel
theorem dX2_copyFrom_0 : decode cX2_copyFrom 0 = .ok (.aload_n 0, 1) := by decide +kernel
theorem dX2_copyFrom_1 : decode cX2_copyFrom 1 = .ok (.aload_n 1, 1) := by decide +kernel
theorem dX2_copyFrom_2 : decode cX2_copyFrom 2 = .ok (.getfield 9, 3) := by decide +kernel
theorem dX2_copyFrom_5 : decode cX2_copyFrom 5 = .ok (.putfield 9, 3) := by decide +kernel
theorem dX2_copyFrom_8 : decode cX2_copyFrom 8 = .ok (.aload_n 0, 1) := by decide +kernel
theorem dX2_copyFrom_9 : decode cX2_copyFrom 9 = .ok (.aload_n 1, 1) := by decide +kernel
theorem dX2_copyFrom_10 : decode cX2_copyFrom 10 = .ok (.getfield 15, 3) := by decide +kernel
theorem dX2_copyFrom_13 : decode cX2_copyFrom 13 = .ok (.putfield 15, 3) := by decide +kernel
theorem dX2_copyFrom_16 : decode cX2_copyFrom 16 = .ok (.aload_n 0, 1) := by decide +kernel
theorem dX2_copyFrom_17 : decode cX2_copyFrom 17 = .ok (.aload_n 1, 1) := by decide +kernel
theorem dX2_copyFrom_18 : decode cX2_copyFrom 18 = .ok (.getfield 30, 3) := by decide +kernel
theorem dX2_copyFrom_21 : decode cX2_copyFrom 21 = .ok (.putfield 30, 3) := by decide +kernel
theorem dX2_copyFrom_24 : decode cX2_copyFrom 24 = .ok (.aload_n 0, 1) := by decide +kernel
theorem dX2_copyFrom_25 : decode cX2_copyFrom 25 = .ok (.aload_n 1, 1) := by decide +kernel
theorem dX2_copyFrom_26 : decode cX2_copyFrom 26 = .ok (.getfield 33, 3) := by decide +kernel
theorem dX2_copyFrom_29 : decode cX2_copyFrom 29 = .ok (.putfield 33, 3) := by decide +kernel
theorem dX2_copyFrom_32 : decode cX2_copyFrom 32 = .ok (.aload_n 0, 1) := by decide +kernel
theorem dX2_copyFrom_33 : decode cX2_copyFrom 33 = .ok (.aload_n 1, 1) := by decide +kernel
theorem dX2_copyFrom_34 : decode cX2_copyFrom 34 = .ok (.getfield 36, 3) := by decide +kernel
theorem dX2_copyFrom_37 : decode cX2_copyFrom 37 = .ok (.putfield 36, 3) := by decide +kernel
theorem dX2_copyFrom_40 : decode cX2_copyFrom 40 = .ok (.aload_n 0, 1) := by decide +kernel
theorem dX2_copyFrom_41 : decode cX2_copyFrom 41 = .ok (.aload_n 1, 1) := by decide +kernel
theorem dX2_copyFrom_42 : decode cX2_copyFrom 42 = .ok (.getfield 18, 3) := by decide +kernel
theorem dX2_copyFrom_45 : decode cX2_copyFrom 45 = .ok (.putfield 18, 3) := by decide +kernel
theorem dX2_copyFrom_48 : decode cX2_copyFrom 48 = .ok (.aload_n 0, 1) := by decide +kernel
theorem dX2_copyFrom_49 : decode cX2_copyFrom 49 = .ok (.aload_n 1, 1) := by decide +kernel
theorem dX2_copyFrom_50 : decode cX2_copyFrom 50 = .ok (.getfield 21, 3) := by decide +kernel
theorem dX2_copyFrom_53 : decode cX2_copyFrom 53 = .ok (.putfield 21, 3) := by decide +kernel
theorem dX2_copyFrom_56 : decode cX2_copyFrom 56 = .ok (.aload_n 0, 1) := by decide +kernel
theorem dX2_copyFrom_57 : decode cX2_copyFrom 57 = .ok (.aload_n 1, 1) := by decide +kernel
theorem dX2_copyFrom_58 : decode cX2_copyFrom 58 = .ok (.getfield 24, 3) := by decide +kernel
theorem dX2_copyFrom_61 : decode cX2_copyFrom 61 = .ok (.putfield 24, 3) := by decide +kernel
theorem dX2_copyFrom_64 : decode cX2_copyFrom 64 = .ok (.return_, 1) := by decide +kernel
theorem dX2_fact_0 : decode cX2_fact 0 = .ok (.iload_n 1, 1) := by decide +kernel
theorem dX2_fact_1 : decode cX2_fact 1 = .ok (.tableswitch 78 0 6 #[43, 48, 53, 58, 63, 68, 73], 43) := by decide +kernel
theorem dX2_fact_44 : decode cX2_fact 44 = .ok (.aload_n 0, 1) := by decide +kernel
theorem dX2_fact_45 : decode cX2_fact 45 = .ok (.getfield 9, 3) := by decide +kernel
theorem dX2_fact_48 : decode cX2_fact 48 = .ok (.ireturn, 1) := by decide +kernel
theorem dX2_fact_49 : decode cX2_fact 49 = .ok (.aload_n 0, 1) := by decide +kernel
theorem dX2_fact_50 : decode cX2_fact 50 = .ok (.getfield 15, 3) := by decide +kernel
theorem dX2_fact_53 : decode cX2_fact 53 = .ok (.ireturn, 1) := by decide +kernel
theorem dX2_fact_54 : decode cX2_fact 54 = .ok (.aload_n 0, 1) := by decide +kernel
theorem dX2_fact_55 : decode cX2_fact 55 = .ok (.getfield 30, 3) := by decide +kernel
theorem dX2_fact_58 : decode cX2_fact 58 = .ok (.ireturn, 1) := by decide +kernel
theorem dX2_fact_59 : decode cX2_fact 59 = .ok (.aload_n 0, 1) := by decide +kernel
theorem dX2_fact_60 : decode cX2_fact 60 = .ok (.getfield 33, 3) := by decide +kernel
theorem dX2_fact_63 : decode cX2_fact 63 = .ok (.ireturn, 1) := by decide +kernel
theorem dX2_fact_64 : decode cX2_fact 64 = .ok (.aload_n 0, 1) := by decide +kernel
theorem dX2_fact_65 : decode cX2_fact 65 = .ok (.getfield 36, 3) := by decide +kernel
theorem dX2_fact_68 : decode cX2_fact 68 = .ok (.ireturn, 1) := by decide +kernel
theorem dX2_fact_69 : decode cX2_fact 69 = .ok (.aload_n 0, 1) := by decide +kernel
theorem dX2_fact_70 : decode cX2_fact 70 = .ok (.getfield 18, 3) := by decide +kernel
theorem dX2_fact_73 : decode cX2_fact 73 = .ok (.ireturn, 1) := by decide +kernel
theorem dX2_fact_74 : decode cX2_fact 74 = .ok (.aload_n 0, 1) := by decide +kernel
theorem dX2_fact_75 : decode cX2_fact 75 = .ok (.getfield 21, 3) := by decide +kernel
theorem dX2_fact_78 : decode cX2_fact 78 = .ok (.ireturn, 1) := by decide +kernel
theorem dX2_fact_79 : decode cX2_fact 79 = .ok (.aload_n 0, 1) := by decide +kernel
theorem dX2_fact_80 : decode cX2_fact 80 = .ok (.getfield 24, 3) := by decide +kernel
theorem dX2_fact_83 : decode cX2_fact 83 = .ok (.ireturn, 1) := by decide +kernel
theorem dX3_init_0 : decode cX3_init 0 = .ok (.aload_n 0, 1) := by decide +kernel
theorem dX3_init_1 : decode cX3_init 1 = .ok (.invokespecial 1, 3) := by decide +kernel
theorem dX3_init_4 : decode cX3_init 4 = .ok (.aload_n 0, 1) := by decide +kernel
theorem dX3_init_5 : decode cX3_init 5 = .ok (.new 7, 3) := by decide +kernel
theorem dX3_init_8 : decode cX3_init 8 = .ok (.dup, 1) := by decide +kernel
theorem dX3_init_9 : decode cX3_init 9 = .ok (.invokespecial 9, 3) := by decide +kernel
theorem dX3_init_12 : decode cX3_init 12 = .ok (.putfield 10, 3) := by decide +kernel
theorem dX3_init_15 : decode cX3_init 15 = .ok (.aload_n 0, 1) := by decide +kernel
theorem dX3_init_16 : decode cX3_init 16 = .ok (.getfield 10, 3) := by decide +kernel
theorem dX3_init_19 : decode cX3_init 19 = .ok (.iconst 3, 1) := by decide +kernel
theorem dX3_init_20 : decode cX3_init 20 = .ok (.invokevirtual 16, 3) := by decide +kernel
theorem dX3_init_23 : decode cX3_init 23 = .ok (.aload_n 0, 1) := by decide +kernel
theorem dX3_init_24 : decode cX3_init 24 = .ok (.new 7, 3) := by decide +kernel
theorem dX3_init_27 : decode cX3_init 27 = .ok (.dup, 1) := by decide +kernel
theorem dX3_init_28 : decode cX3_init 28 = .ok (.invokespecial 9, 3) := by decide +kernel
theorem dX3_init_31 : decode cX3_init 31 = .ok (.putfield 20, 3) := by decide +kernel
theorem dX3_init_34 : decode cX3_init 34 = .ok (.aload_n 0, 1) := by decide +kernel
theorem dX3_init_35 : decode cX3_init 35 = .ok (.iconst 4, 1) := by decide +kernel
theorem dX3_init_36 : decode cX3_init 36 = .ok (.anewarray 7, 3) := by decide +kernel
theorem dX3_init_39 : decode cX3_init 39 = .ok (.putfield 23, 3) := by decide +kernel
theorem dX3_init_42 : decode cX3_init 42 = .ok (.iconst 0, 1) := by decide +kernel
theorem dX3_init_43 : decode cX3_init 43 = .ok (.istore_n 1, 1) := by decide +kernel
theorem dX3_init_44 : decode cX3_init 44 = .ok (.iload_n 1, 1) := by decide +kernel
theorem dX3_init_45 : decode cX3_init 45 = .ok (.aload_n 0, 1) := by decide +kernel
theorem dX3_init_46 : decode cX3_init 46 = .ok (.getfield 23, 3) := by decide +kernel
theorem dX3_init_49 : decode cX3_init 49 = .ok (.arraylength, 1) := by decide +kernel
theorem dX3_init_50 : decode cX3_init 50 = .ok (.if_icmp .ge 22, 3) := by decide +kernel
theorem dX3_init_53 : decode cX3_init 53 = .ok (.aload_n 0, 1) := by decide +kernel
theorem dX3_init_54 : decode cX3_init 54 = .ok (.getfield 23, 3) := by decide +kernel
theorem dX3_init_57 : decode cX3_init 57 = .ok (.iload_n 1, 1) := by decide +kernel
theorem dX3_init_58 : decode cX3_init 58 = .ok (.new 7, 3) := by decide +kernel
theorem dX3_init_61 : decode cX3_init 61 = .ok (.dup, 1) := by decide +kernel
theorem dX3_init_62 : decode cX3_init 62 = .ok (.invokespecial 9, 3) := by decide +kernel
theorem dX3_init_65 : decode cX3_init 65 = .ok (.aastore, 1) := by decide +kernel
theorem dX3_init_66 : decode cX3_init 66 = .ok (.iinc 1 1, 3) := by decide +kernel
theorem dX3_init_69 : decode cX3_init 69 = .ok (.goto (-25), 3) := by decide +kernel
theorem dX3_init_72 : decode cX3_init 72 = .ok (.aload_n 0, 1) := by decide +kernel
theorem dX3_init_73 : decode cX3_init 73 = .ok (.bipush 100, 2) := by decide +kernel
theorem dX3_init_75 : decode cX3_init 75 = .ok (.newarray .int, 2) := by decide +kernel
theorem dX3_init_77 : decode cX3_init 77 = .ok (.putfield 27, 3) := by decide +kernel
theorem dX3_init_80 : decode cX3_init 80 = .ok (.return_, 1) := by decide +kernel
theorem dX3_addChair_0 : decode cX3_addChair 0 = .ok (.aload_n 0, 1) := by decide +kernel
theorem dX3_addChair_1 : decode cX3_addChair 1 = .ok (.getfield 10, 3) := by decide +kernel
theorem dX3_addChair_4 : decode cX3_addChair 4 = .ok (.iload_n 1, 1) := by decide +kernel
theorem dX3_addChair_5 : decode cX3_addChair 5 = .ok (.invokevirtual 31, 3) := by decide +kernel
theorem dX3_addChair_8 : decode cX3_addChair 8 = .ok (.ifCond .ne 13, 3) := by decide +kernel
theorem dX3_addChair_11 : decode cX3_addChair 11 = .ok (.new 35, 3) := by decide +kernel
theorem dX3_addChair_14 : decode cX3_addChair 14 = .ok (.dup, 1) := by decide +kernel
theorem dX3_addChair_15 : decode cX3_addChair 15 = .ok (.ldc 37, 2) := by decide +kernel
theorem dX3_addChair_17 : decode cX3_addChair 17 = .ok (.invokespecial 39, 3) := by decide +kernel
theorem dX3_addChair_20 : decode cX3_addChair 20 = .ok (.athrow, 1) := by decide +kernel
theorem dX3_addChair_21 : decode cX3_addChair 21 = .ok (.iload_n 2, 1) := by decide +kernel
theorem dX3_addChair_22 : decode cX3_addChair 22 = .ok (.iconst 1, 1) := by decide +kernel
theorem dX3_addChair_23 : decode cX3_addChair 23 = .ok (.if_icmp .lt 18, 3) := by decide +kernel
theorem dX3_addChair_26 : decode cX3_addChair 26 = .ok (.iload_n 2, 1) := by decide +kernel
theorem dX3_addChair_27 : decode cX3_addChair 27 = .ok (.iconst 4, 1) := by decide +kernel
theorem dX3_addChair_28 : decode cX3_addChair 28 = .ok (.if_icmp .gt 13, 3) := by decide +kernel
theorem dX3_addChair_31 : decode cX3_addChair 31 = .ok (.iload_n 3, 1) := by decide +kernel
theorem dX3_addChair_32 : decode cX3_addChair 32 = .ok (.ifCond .lt 9, 3) := by decide +kernel
theorem dX3_addChair_35 : decode cX3_addChair 35 = .ok (.iload_n 3, 1) := by decide +kernel
theorem dX3_addChair_36 : decode cX3_addChair 36 = .ok (.bipush 20, 2) := by decide +kernel
theorem dX3_addChair_38 : decode cX3_addChair 38 = .ok (.if_icmp .le 13, 3) := by decide +kernel
theorem dX3_addChair_41 : decode cX3_addChair 41 = .ok (.new 42, 3) := by decide +kernel
theorem dX3_addChair_44 : decode cX3_addChair 44 = .ok (.dup, 1) := by decide +kernel
theorem dX3_addChair_45 : decode cX3_addChair 45 = .ok (.ldc 44, 2) := by decide +kernel
theorem dX3_addChair_47 : decode cX3_addChair 47 = .ok (.invokespecial 46, 3) := by decide +kernel
theorem dX3_addChair_50 : decode cX3_addChair 50 = .ok (.athrow, 1) := by decide +kernel
theorem dX3_addChair_51 : decode cX3_addChair 51 = .ok (.aload_n 0, 1) := by decide +kernel
theorem dX3_addChair_52 : decode cX3_addChair 52 = .ok (.getfield 10, 3) := by decide +kernel
theorem dX3_addChair_55 : decode cX3_addChair 55 = .ok (.getfield 47, 3) := by decide +kernel
theorem dX3_addChair_58 : decode cX3_addChair 58 = .ok (.bipush 14, 2) := by decide +kernel
theorem dX3_addChair_60 : decode cX3_addChair 60 = .ok (.if_icmp .lt 13, 3) := by decide +kernel
theorem dX3_addChair_63 : decode cX3_addChair 63 = .ok (.new 51, 3) := by decide +kernel
theorem dX3_addChair_66 : decode cX3_addChair 66 = .ok (.dup, 1) := by decide +kernel
theorem dX3_addChair_67 : decode cX3_addChair 67 = .ok (.ldc 53, 2) := by decide +kernel
theorem dX3_addChair_69 : decode cX3_addChair 69 = .ok (.invokespecial 55, 3) := by decide +kernel
theorem dX3_addChair_72 : decode cX3_addChair 72 = .ok (.athrow, 1) := by decide +kernel
theorem dX3_addChair_73 : decode cX3_addChair 73 = .ok (.aload_n 0, 1) := by decide +kernel
theorem dX3_addChair_74 : decode cX3_addChair 74 = .ok (.invokevirtual 56, 3) := by decide +kernel
theorem dX3_addChair_77 : decode cX3_addChair 77 = .ok (.aload_n 0, 1) := by decide +kernel
theorem dX3_addChair_78 : decode cX3_addChair 78 = .ok (.getfield 10, 3) := by decide +kernel
theorem dX3_addChair_81 : decode cX3_addChair 81 = .ok (.iload_n 1, 1) := by decide +kernel
theorem dX3_addChair_82 : decode cX3_addChair 82 = .ok (.iload_n 2, 1) := by decide +kernel
theorem dX3_addChair_83 : decode cX3_addChair 83 = .ok (.iload_n 3, 1) := by decide +kernel
theorem dX3_addChair_84 : decode cX3_addChair 84 = .ok (.iload 4, 2) := by decide +kernel
theorem dX3_addChair_86 : decode cX3_addChair 86 = .ok (.invokevirtual 59, 3) := by decide +kernel
theorem dX3_addChair_89 : decode cX3_addChair 89 = .ok (.ireturn, 1) := by decide +kernel
theorem dX3_addTeam_0 : decode cX3_addTeam 0 = .ok (.aload_n 0, 1) := by decide +kernel
theorem dX3_addTeam_1 : decode cX3_addTeam 1 = .ok (.getfield 10, 3) := by decide +kernel
theorem dX3_addTeam_4 : decode cX3_addTeam 4 = .ok (.iload_n 1, 1) := by decide +kernel
theorem dX3_addTeam_5 : decode cX3_addTeam 5 = .ok (.invokevirtual 31, 3) := by decide +kernel
theorem dX3_addTeam_8 : decode cX3_addTeam 8 = .ok (.ifCond .ne 13, 3) := by decide +kernel
theorem dX3_addTeam_11 : decode cX3_addTeam 11 = .ok (.new 35, 3) := by decide +kernel
theorem dX3_addTeam_14 : decode cX3_addTeam 14 = .ok (.dup, 1) := by decide +kernel
theorem dX3_addTeam_15 : decode cX3_addTeam 15 = .ok (.ldc 37, 2) := by decide +kernel
theorem dX3_addTeam_17 : decode cX3_addTeam 17 = .ok (.invokespecial 39, 3) := by decide +kernel
theorem dX3_addTeam_20 : decode cX3_addTeam 20 = .ok (.athrow, 1) := by decide +kernel
theorem dX3_addTeam_21 : decode cX3_addTeam 21 = .ok (.iload_n 2, 1) := by decide +kernel
theorem dX3_addTeam_22 : decode cX3_addTeam 22 = .ok (.ifCond .lt 9, 3) := by decide +kernel
theorem dX3_addTeam_25 : decode cX3_addTeam 25 = .ok (.iload_n 2, 1) := by decide +kernel
theorem dX3_addTeam_26 : decode cX3_addTeam 26 = .ok (.bipush 30, 2) := by decide +kernel
theorem dX3_addTeam_28 : decode cX3_addTeam 28 = .ok (.if_icmp .le 13, 3) := by decide +kernel
theorem dX3_addTeam_31 : decode cX3_addTeam 31 = .ok (.new 42, 3) := by decide +kernel
theorem dX3_addTeam_34 : decode cX3_addTeam 34 = .ok (.dup, 1) := by decide +kernel
theorem dX3_addTeam_35 : decode cX3_addTeam 35 = .ok (.ldc 63, 2) := by decide +kernel
theorem dX3_addTeam_37 : decode cX3_addTeam 37 = .ok (.invokespecial 46, 3) := by decide +kernel
theorem dX3_addTeam_40 : decode cX3_addTeam 40 = .ok (.athrow, 1) := by decide +kernel
theorem dX3_addTeam_41 : decode cX3_addTeam 41 = .ok (.aload_n 0, 1) := by decide +kernel
theorem dX3_addTeam_42 : decode cX3_addTeam 42 = .ok (.getfield 10, 3) := by decide +kernel
theorem dX3_addTeam_45 : decode cX3_addTeam 45 = .ok (.getfield 65, 3) := by decide +kernel
theorem dX3_addTeam_48 : decode cX3_addTeam 48 = .ok (.iconst 4, 1) := by decide +kernel
theorem dX3_addTeam_49 : decode cX3_addTeam 49 = .ok (.if_icmp .lt 13, 3) := by decide +kernel
theorem dX3_addTeam_52 : decode cX3_addTeam 52 = .ok (.new 51, 3) := by decide +kernel
theorem dX3_addTeam_55 : decode cX3_addTeam 55 = .ok (.dup, 1) := by decide +kernel
theorem dX3_addTeam_56 : decode cX3_addTeam 56 = .ok (.ldc 68, 2) := by decide +kernel
theorem dX3_addTeam_58 : decode cX3_addTeam 58 = .ok (.invokespecial 55, 3) := by decide +kernel
theorem dX3_addTeam_61 : decode cX3_addTeam 61 = .ok (.athrow, 1) := by decide +kernel
theorem dX3_addTeam_62 : decode cX3_addTeam 62 = .ok (.aload_n 0, 1) := by decide +kernel
theorem dX3_addTeam_63 : decode cX3_addTeam 63 = .ok (.invokevirtual 56, 3) := by decide +kernel
theorem dX3_addTeam_66 : decode cX3_addTeam 66 = .ok (.aload_n 0, 1) := by decide +kernel
theorem dX3_addTeam_67 : decode cX3_addTeam 67 = .ok (.getfield 10, 3) := by decide +kernel
theorem dX3_addTeam_70 : decode cX3_addTeam 70 = .ok (.iload_n 1, 1) := by decide +kernel
theorem dX3_addTeam_71 : decode cX3_addTeam 71 = .ok (.iload_n 2, 1) := by decide +kernel
theorem dX3_addTeam_72 : decode cX3_addTeam 72 = .ok (.invokevirtual 70, 3) := by decide +kernel
theorem dX3_addTeam_75 : decode cX3_addTeam 75 = .ok (.ireturn, 1) := by decide +kernel
theorem dX3_setWay_0 : decode cX3_setWay 0 = .ok (.aload_n 0, 1) := by decide +kernel
theorem dX3_setWay_1 : decode cX3_setWay 1 = .ok (.getfield 10, 3) := by decide +kernel
theorem dX3_setWay_4 : decode cX3_setWay 4 = .ok (.iload_n 1, 1) := by decide +kernel
theorem dX3_setWay_5 : decode cX3_setWay 5 = .ok (.invokevirtual 74, 3) := by decide +kernel
theorem dX3_setWay_8 : decode cX3_setWay 8 = .ok (.ifCond .ne 13, 3) := by decide +kernel
theorem dX3_setWay_11 : decode cX3_setWay 11 = .ok (.new 35, 3) := by decide +kernel
theorem dX3_setWay_14 : decode cX3_setWay 14 = .ok (.dup, 1) := by decide +kernel
theorem dX3_setWay_15 : decode cX3_setWay 15 = .ok (.ldc 77, 2) := by decide +kernel
theorem dX3_setWay_17 : decode cX3_setWay 17 = .ok (.invokespecial 39, 3) := by decide +kernel
theorem dX3_setWay_20 : decode cX3_setWay 20 = .ok (.athrow, 1) := by decide +kernel
theorem dX3_setWay_21 : decode cX3_setWay 21 = .ok (.iload_n 2, 1) := by decide +kernel
theorem dX3_setWay_22 : decode cX3_setWay 22 = .ok (.iconst 1, 1) := by decide +kernel
theorem dX3_setWay_23 : decode cX3_setWay 23 = .ok (.if_icmp .lt 9, 3) := by decide +kernel
theorem dX3_setWay_26 : decode cX3_setWay 26 = .ok (.iload_n 2, 1) := by decide +kernel
theorem dX3_setWay_27 : decode cX3_setWay 27 = .ok (.bipush 20, 2) := by decide +kernel
theorem dX3_setWay_29 : decode cX3_setWay 29 = .ok (.if_icmp .le 13, 3) := by decide +kernel
theorem dX3_setWay_32 : decode cX3_setWay 32 = .ok (.new 42, 3) := by decide +kernel
theorem dX3_setWay_35 : decode cX3_setWay 35 = .ok (.dup, 1) := by decide +kernel
theorem dX3_setWay_36 : decode cX3_setWay 36 = .ok (.ldc 79, 2) := by decide +kernel
theorem dX3_setWay_38 : decode cX3_setWay 38 = .ok (.invokespecial 46, 3) := by decide +kernel
theorem dX3_setWay_41 : decode cX3_setWay 41 = .ok (.athrow, 1) := by decide +kernel
theorem dX3_setWay_42 : decode cX3_setWay 42 = .ok (.aload_n 0, 1) := by decide +kernel
theorem dX3_setWay_43 : decode cX3_setWay 43 = .ok (.invokevirtual 56, 3) := by decide +kernel
theorem dX3_setWay_46 : decode cX3_setWay 46 = .ok (.aload_n 0, 1) := by decide +kernel
theorem dX3_setWay_47 : decode cX3_setWay 47 = .ok (.getfield 10, 3) := by decide +kernel
theorem dX3_setWay_50 : decode cX3_setWay 50 = .ok (.iload_n 1, 1) := by decide +kernel
theorem dX3_setWay_51 : decode cX3_setWay 51 = .ok (.invokevirtual 81, 3) := by decide +kernel
theorem dX3_setWay_54 : decode cX3_setWay 54 = .ok (.istore_n 3, 1) := by decide +kernel
theorem dX3_setWay_55 : decode cX3_setWay 55 = .ok (.aload_n 0, 1) := by decide +kernel
theorem dX3_setWay_56 : decode cX3_setWay 56 = .ok (.getfield 10, 3) := by decide +kernel
theorem dX3_setWay_59 : decode cX3_setWay 59 = .ok (.iload_n 1, 1) := by decide +kernel
theorem dX3_setWay_60 : decode cX3_setWay 60 = .ok (.iload_n 2, 1) := by decide +kernel
theorem dX3_setWay_61 : decode cX3_setWay 61 = .ok (.invokevirtual 85, 3) := by decide +kernel
theorem dX3_setWay_64 : decode cX3_setWay 64 = .ok (.iload_n 3, 1) := by decide +kernel
theorem dX3_setWay_65 : decode cX3_setWay 65 = .ok (.ireturn, 1) := by decide +kernel
theorem dX3_setCold_0 : decode cX3_setCold 0 = .ok (.aload_n 0, 1) := by decide +kernel
theorem dX3_setCold_1 : decode cX3_setCold 1 = .ok (.getfield 10, 3) := by decide +kernel
theorem dX3_setCold_4 : decode cX3_setCold 4 = .ok (.iload_n 1, 1) := by decide +kernel
theorem dX3_setCold_5 : decode cX3_setCold 5 = .ok (.invokevirtual 89, 3) := by decide +kernel
theorem dX3_setCold_8 : decode cX3_setCold 8 = .ok (.astore_n 3, 1) := by decide +kernel
theorem dX3_setCold_9 : decode cX3_setCold 9 = .ok (.aload_n 3, 1) := by decide +kernel
theorem dX3_setCold_10 : decode cX3_setCold 10 = .ok (.ifnonnull 13, 3) := by decide +kernel
theorem dX3_setCold_13 : decode cX3_setCold 13 = .ok (.new 35, 3) := by decide +kernel
theorem dX3_setCold_16 : decode cX3_setCold 16 = .ok (.dup, 1) := by decide +kernel
theorem dX3_setCold_17 : decode cX3_setCold 17 = .ok (.ldc 93, 2) := by decide +kernel
theorem dX3_setCold_19 : decode cX3_setCold 19 = .ok (.invokespecial 39, 3) := by decide +kernel
theorem dX3_setCold_22 : decode cX3_setCold 22 = .ok (.athrow, 1) := by decide +kernel
theorem dX3_setCold_23 : decode cX3_setCold 23 = .ok (.iload_n 2, 1) := by decide +kernel
theorem dX3_setCold_24 : decode cX3_setCold 24 = .ok (.ifCond .lt 9, 3) := by decide +kernel
theorem dX3_setCold_27 : decode cX3_setCold 27 = .ok (.iload_n 2, 1) := by decide +kernel
theorem dX3_setCold_28 : decode cX3_setCold 28 = .ok (.bipush 20, 2) := by decide +kernel
theorem dX3_setCold_30 : decode cX3_setCold 30 = .ok (.if_icmp .le 13, 3) := by decide +kernel
theorem dX3_setCold_33 : decode cX3_setCold 33 = .ok (.new 42, 3) := by decide +kernel
theorem dX3_setCold_36 : decode cX3_setCold 36 = .ok (.dup, 1) := by decide +kernel
theorem dX3_setCold_37 : decode cX3_setCold 37 = .ok (.ldc 95, 2) := by decide +kernel
theorem dX3_setCold_39 : decode cX3_setCold 39 = .ok (.invokespecial 46, 3) := by decide +kernel
theorem dX3_setCold_42 : decode cX3_setCold 42 = .ok (.athrow, 1) := by decide +kernel
theorem dX3_setCold_43 : decode cX3_setCold 43 = .ok (.aload_n 3, 1) := by decide +kernel
theorem dX3_setCold_44 : decode cX3_setCold 44 = .ok (.getfield 97, 3) := by decide +kernel
theorem dX3_setCold_47 : decode cX3_setCold 47 = .ok (.iconst 2, 1) := by decide +kernel
theorem dX3_setCold_48 : decode cX3_setCold 48 = .ok (.if_icmp .ne 13, 3) := by decide +kernel
theorem dX3_setCold_51 : decode cX3_setCold 51 = .ok (.new 51, 3) := by decide +kernel
theorem dX3_setCold_54 : decode cX3_setCold 54 = .ok (.dup, 1) := by decide +kernel
theorem dX3_setCold_55 : decode cX3_setCold 55 = .ok (.ldc 102, 2) := by decide +kernel
theorem dX3_setCold_57 : decode cX3_setCold 57 = .ok (.invokespecial 55, 3) := by decide +kernel
theorem dX3_setCold_60 : decode cX3_setCold 60 = .ok (.athrow, 1) := by decide +kernel
theorem dX3_setCold_61 : decode cX3_setCold 61 = .ok (.aload_n 0, 1) := by decide +kernel
theorem dX3_setCold_62 : decode cX3_setCold 62 = .ok (.invokevirtual 56, 3) := by decide +kernel
theorem dX3_setCold_65 : decode cX3_setCold 65 = .ok (.aload_n 3, 1) := by decide +kernel
theorem dX3_setCold_66 : decode cX3_setCold 66 = .ok (.getfield 104, 3) := by decide +kernel
theorem dX3_setCold_69 : decode cX3_setCold 69 = .ok (.istore 4, 2) := by decide +kernel
theorem dX3_setCold_71 : decode cX3_setCold 71 = .ok (.aload_n 3, 1) := by decide +kernel
theorem dX3_setCold_72 : decode cX3_setCold 72 = .ok (.iload_n 2, 1) := by decide +kernel
theorem dX3_setCold_73 : decode cX3_setCold 73 = .ok (.putfield 104, 3) := by decide +kernel
theorem dX3_setCold_76 : decode cX3_setCold 76 = .ok (.iload 4, 2) := by decide +kernel
theorem dX3_setCold_78 : decode cX3_setCold 78 = .ok (.ireturn, 1) := by decide +kernel
theorem dX3_callOff_0 : decode cX3_callOff 0 = .ok (.aload_n 0, 1) := by decide +kernel
theorem dX3_callOff_1 : decode cX3_callOff 1 = .ok (.getfield 10, 3) := by decide +kernel
theorem dX3_callOff_4 : decode cX3_callOff 4 = .ok (.iload_n 1, 1) := by decide +kernel
theorem dX3_callOff_5 : decode cX3_callOff 5 = .ok (.invokevirtual 107, 3) := by decide +kernel
theorem dX3_callOff_8 : decode cX3_callOff 8 = .ok (.astore_n 2, 1) := by decide +kernel
theorem dX3_callOff_9 : decode cX3_callOff 9 = .ok (.aload_n 2, 1) := by decide +kernel
theorem dX3_callOff_10 : decode cX3_callOff 10 = .ok (.ifnonnull 13, 3) := by decide +kernel
theorem dX3_callOff_13 : decode cX3_callOff 13 = .ok (.new 35, 3) := by decide +kernel
theorem dX3_callOff_16 : decode cX3_callOff 16 = .ok (.dup, 1) := by decide +kernel
theorem dX3_callOff_17 : decode cX3_callOff 17 = .ok (.ldc 111, 2) := by decide +kernel
theorem dX3_callOff_19 : decode cX3_callOff 19 = .ok (.invokespecial 39, 3) := by decide +kernel
theorem dX3_callOff_22 : decode cX3_callOff 22 = .ok (.athrow, 1) := by decide +kernel
theorem dX3_callOff_23 : decode cX3_callOff 23 = .ok (.aload_n 0, 1) := by decide +kernel
theorem dX3_callOff_24 : decode cX3_callOff 24 = .ok (.invokevirtual 56, 3) := by decide +kernel
theorem dX3_callOff_27 : decode cX3_callOff 27 = .ok (.aload_n 2, 1) := by decide +kernel
theorem dX3_callOff_28 : decode cX3_callOff 28 = .ok (.getfield 113, 3) := by decide +kernel
theorem dX3_callOff_31 : decode cX3_callOff 31 = .ok (.istore_n 3, 1) := by decide +kernel
theorem dX3_callOff_32 : decode cX3_callOff 32 = .ok (.aload_n 0, 1) := by decide +kernel
theorem dX3_callOff_33 : decode cX3_callOff 33 = .ok (.getfield 10, 3) := by decide +kernel
theorem dX3_callOff_36 : decode cX3_callOff 36 = .ok (.iload_n 3, 1) := by decide +kernel
theorem dX3_callOff_37 : decode cX3_callOff 37 = .ok (.invokevirtual 89, 3) := by decide +kernel
theorem dX3_callOff_40 : decode cX3_callOff 40 = .ok (.astore 4, 2) := by decide +kernel
theorem dX3_callOff_42 : decode cX3_callOff 42 = .ok (.aload 4, 2) := by decide +kernel
theorem dX3_callOff_44 : decode cX3_callOff 44 = .ok (.ifnull 8, 3) := by decide +kernel
theorem dX3_callOff_47 : decode cX3_callOff 47 = .ok (.aload 4, 2) := by decide +kernel
theorem dX3_callOff_49 : decode cX3_callOff 49 = .ok (.invokevirtual 118, 3) := by decide +kernel
theorem dX3_callOff_52 : decode cX3_callOff 52 = .ok (.aload_n 2, 1) := by decide +kernel
theorem dX3_callOff_53 : decode cX3_callOff 53 = .ok (.invokevirtual 121, 3) := by decide +kernel
theorem dX3_callOff_56 : decode cX3_callOff 56 = .ok (.iload_n 3, 1) := by decide +kernel
theorem dX3_callOff_57 : decode cX3_callOff 57 = .ok (.ireturn, 1) := by decide +kernel
theorem dX3_pass_0 : decode cX3_pass 0 = .ok (.iload_n 1, 1) := by decide +kernel
theorem dX3_pass_1 : decode cX3_pass 1 = .ok (.iconst 1, 1) := by decide +kernel
theorem dX3_pass_2 : decode cX3_pass 2 = .ok (.if_icmp .lt 10, 3) := by decide +kernel
theorem dX3_pass_5 : decode cX3_pass 5 = .ok (.iload_n 1, 1) := by decide +kernel
theorem dX3_pass_6 : decode cX3_pass 6 = .ok (.sipush 500, 3) := by decide +kernel
theorem dX3_pass_9 : decode cX3_pass 9 = .ok (.if_icmp .le 13, 3) := by decide +kernel
theorem dX3_pass_12 : decode cX3_pass 12 = .ok (.new 42, 3) := by decide +kernel
theorem dX3_pass_15 : decode cX3_pass 15 = .ok (.dup, 1) := by decide +kernel
theorem dX3_pass_16 : decode cX3_pass 16 = .ok (.ldc 79, 2) := by decide +kernel
theorem dX3_pass_18 : decode cX3_pass 18 = .ok (.invokespecial 46, 3) := by decide +kernel
theorem dX3_pass_21 : decode cX3_pass 21 = .ok (.athrow, 1) := by decide +kernel
theorem dX3_pass_22 : decode cX3_pass 22 = .ok (.aload_n 0, 1) := by decide +kernel
theorem dX3_pass_23 : decode cX3_pass 23 = .ok (.getfield 10, 3) := by decide +kernel
theorem dX3_pass_26 : decode cX3_pass 26 = .ok (.getfield 124, 3) := by decide +kernel
theorem dX3_pass_29 : decode cX3_pass 29 = .ok (.iload_n 1, 1) := by decide +kernel
theorem dX3_pass_30 : decode cX3_pass 30 = .ok (.iadd, 1) := by decide +kernel
theorem dX3_pass_31 : decode cX3_pass 31 = .ok (.sipush 5000, 3) := by decide +kernel
theorem dX3_pass_34 : decode cX3_pass 34 = .ok (.if_icmp .le 13, 3) := by decide +kernel
theorem dX3_pass_37 : decode cX3_pass 37 = .ok (.new 51, 3) := by decide +kernel
theorem dX3_pass_40 : decode cX3_pass 40 = .ok (.dup, 1) := by decide +kernel
theorem dX3_pass_41 : decode cX3_pass 41 = .ok (.ldc 127, 2) := by decide +kernel
theorem dX3_pass_43 : decode cX3_pass 43 = .ok (.invokespecial 55, 3) := by decide +kernel
theorem dX3_pass_46 : decode cX3_pass 46 = .ok (.athrow, 1) := by decide +kernel
theorem dX3_pass_47 : decode cX3_pass 47 = .ok (.aload_n 0, 1) := by decide +kernel
theorem dX3_pass_48 : decode cX3_pass 48 = .ok (.invokevirtual 56, 3) := by decide +kernel
theorem dX3_pass_51 : decode cX3_pass 51 = .ok (.aload_n 0, 1) := by decide +kernel
theorem dX3_pass_52 : decode cX3_pass 52 = .ok (.getfield 10, 3) := by decide +kernel
theorem dX3_pass_55 : decode cX3_pass 55 = .ok (.getfield 129, 3) := by decide +kernel
theorem dX3_pass_58 : decode cX3_pass 58 = .ok (.istore_n 2, 1) := by decide +kernel
theorem dX3_pass_59 : decode cX3_pass 59 = .ok (.iconst 0, 1) := by decide +kernel
theorem dX3_pass_60 : decode cX3_pass 60 = .ok (.istore_n 3, 1) := by decide +kernel
theorem dX3_pass_61 : decode cX3_pass 61 = .ok (.iload_n 3, 1) := by decide +kernel
theorem dX3_pass_62 : decode cX3_pass 62 = .ok (.iload_n 1, 1) := by decide +kernel
theorem dX3_pass_63 : decode cX3_pass 63 = .ok (.if_icmp .ge 16, 3) := by decide +kernel
theorem dX3_pass_66 : decode cX3_pass 66 = .ok (.aload_n 0, 1) := by decide +kernel
theorem dX3_pass_67 : decode cX3_pass 67 = .ok (.getfield 10, 3) := by decide +kernel
theorem dX3_pass_70 : decode cX3_pass 70 = .ok (.invokevirtual 132, 3) := by decide +kernel
theorem dX3_pass_73 : decode cX3_pass 73 = .ok (.iinc 3 1, 3) := by decide +kernel
theorem dX3_pass_76 : decode cX3_pass 76 = .ok (.goto (-15), 3) := by decide +kernel
theorem dX3_pass_79 : decode cX3_pass 79 = .ok (.aload_n 0, 1) := by decide +kernel
theorem dX3_pass_80 : decode cX3_pass 80 = .ok (.getfield 10, 3) := by decide +kernel
theorem dX3_pass_83 : decode cX3_pass 83 = .ok (.getfield 129, 3) := by decide +kernel
theorem dX3_pass_86 : decode cX3_pass 86 = .ok (.iload_n 2, 1) := by decide +kernel
theorem dX3_pass_87 : decode cX3_pass 87 = .ok (.isub, 1) := by decide +kernel
theorem dX3_pass_88 : decode cX3_pass 88 = .ok (.ireturn, 1) := by decide +kernel
theorem dX3_tell_0 : decode cX3_tell 0 = .ok (.aload_n 0, 1) := by decide +kernel
theorem dX3_tell_1 : decode cX3_tell 1 = .ok (.invokevirtual 56, 3) := by decide +kernel
theorem dX3_tell_4 : decode cX3_tell 4 = .ok (.aload_n 0, 1) := by decide +kernel
theorem dX3_tell_5 : decode cX3_tell 5 = .ok (.getfield 20, 3) := by decide +kernel
theorem dX3_tell_8 : decode cX3_tell 8 = .ok (.aload_n 0, 1) := by decide +kernel
theorem dX3_tell_9 : decode cX3_tell 9 = .ok (.getfield 10, 3) := by decide +kernel
theorem dX3_tell_12 : decode cX3_tell 12 = .ok (.invokevirtual 135, 3) := by decide +kernel
theorem dX3_tell_15 : decode cX3_tell 15 = .ok (.aload_n 0, 1) := by decide +kernel
theorem dX3_tell_16 : decode cX3_tell 16 = .ok (.getfield 20, 3) := by decide +kernel
theorem dX3_tell_19 : decode cX3_tell 19 = .ok (.invokevirtual 139, 3) := by decide +kernel
theorem dX3_tell_22 : decode cX3_tell 22 = .ok (.pop, 1) := by decide +kernel
theorem dX3_tell_23 : decode cX3_tell 23 = .ok (.iconst 0, 1) := by decide +kernel
theorem dX3_tell_24 : decode cX3_tell 24 = .ok (.istore_n 1, 1) := by decide +kernel
theorem dX3_tell_25 : decode cX3_tell 25 = .ok (.iconst 0, 1) := by decide +kernel
theorem dX3_tell_26 : decode cX3_tell 26 = .ok (.istore_n 2, 1) := by decide +kernel
theorem dX3_tell_27 : decode cX3_tell 27 = .ok (.iload_n 2, 1) := by decide +kernel
theorem dX3_tell_28 : decode cX3_tell 28 = .ok (.aload_n 0, 1) := by decide +kernel
theorem dX3_tell_29 : decode cX3_tell 29 = .ok (.getfield 10, 3) := by decide +kernel
theorem dX3_tell_32 : decode cX3_tell 32 = .ok (.getfield 47, 3) := by decide +kernel
theorem dX3_tell_35 : decode cX3_tell 35 = .ok (.if_icmp .ge 71, 3) := by decide +kernel
theorem dX3_tell_38 : decode cX3_tell 38 = .ok (.aload_n 0, 1) := by decide +kernel
theorem dX3_tell_39 : decode cX3_tell 39 = .ok (.getfield 10, 3) := by decide +kernel
theorem dX3_tell_42 : decode cX3_tell 42 = .ok (.iload_n 2, 1) := by decide +kernel
theorem dX3_tell_43 : decode cX3_tell 43 = .ok (.invokevirtual 89, 3) := by decide +kernel
theorem dX3_tell_46 : decode cX3_tell 46 = .ok (.astore_n 3, 1) := by decide +kernel
theorem dX3_tell_47 : decode cX3_tell 47 = .ok (.aload_n 0, 1) := by decide +kernel
theorem dX3_tell_48 : decode cX3_tell 48 = .ok (.getfield 20, 3) := by decide +kernel
theorem dX3_tell_51 : decode cX3_tell 51 = .ok (.iload_n 2, 1) := by decide +kernel
theorem dX3_tell_52 : decode cX3_tell 52 = .ok (.invokevirtual 89, 3) := by decide +kernel
theorem dX3_tell_55 : decode cX3_tell 55 = .ok (.astore 4, 2) := by decide +kernel
theorem dX3_tell_57 : decode cX3_tell 57 = .ok (.aload_n 3, 1) := by decide +kernel
theorem dX3_tell_58 : decode cX3_tell 58 = .ok (.ifnull 42, 3) := by decide +kernel
theorem dX3_tell_61 : decode cX3_tell 61 = .ok (.aload 4, 2) := by decide +kernel
theorem dX3_tell_63 : decode cX3_tell 63 = .ok (.ifnull 37, 3) := by decide +kernel
theorem dX3_tell_66 : decode cX3_tell 66 = .ok (.aload_n 3, 1) := by decide +kernel
theorem dX3_tell_67 : decode cX3_tell 67 = .ok (.getfield 97, 3) := by decide +kernel
theorem dX3_tell_70 : decode cX3_tell 70 = .ok (.iconst 2, 1) := by decide +kernel
theorem dX3_tell_71 : decode cX3_tell 71 = .ok (.if_icmp .eq 29, 3) := by decide +kernel
theorem dX3_tell_74 : decode cX3_tell 74 = .ok (.aload_n 3, 1) := by decide +kernel
theorem dX3_tell_75 : decode cX3_tell 75 = .ok (.aload 4, 2) := by decide +kernel
theorem dX3_tell_77 : decode cX3_tell 77 = .ok (.getfield 143, 3) := by decide +kernel
theorem dX3_tell_80 : decode cX3_tell 80 = .ok (.putfield 144, 3) := by decide +kernel
theorem dX3_tell_83 : decode cX3_tell 83 = .ok (.iload_n 1, 1) := by decide +kernel
theorem dX3_tell_84 : decode cX3_tell 84 = .ok (.aload 4, 2) := by decide +kernel
theorem dX3_tell_86 : decode cX3_tell 86 = .ok (.getfield 143, 3) := by decide +kernel
theorem dX3_tell_89 : decode cX3_tell 89 = .ok (.iconst (-1), 1) := by decide +kernel
theorem dX3_tell_90 : decode cX3_tell 90 = .ok (.if_icmp .ne 7, 3) := by decide +kernel
theorem dX3_tell_93 : decode cX3_tell 93 = .ok (.iconst 0, 1) := by decide +kernel
theorem dX3_tell_94 : decode cX3_tell 94 = .ok (.goto 4, 3) := by decide +kernel
theorem dX3_tell_97 : decode cX3_tell 97 = .ok (.iconst 1, 1) := by decide +kernel
theorem dX3_tell_98 : decode cX3_tell 98 = .ok (.iadd, 1) := by decide +kernel
theorem dX3_tell_99 : decode cX3_tell 99 = .ok (.istore_n 1, 1) := by decide +kernel
theorem dX3_tell_100 : decode cX3_tell 100 = .ok (.iinc 2 1, 3) := by decide +kernel
theorem dX3_tell_103 : decode cX3_tell 103 = .ok (.goto (-76), 3) := by decide +kernel
theorem dX3_tell_106 : decode cX3_tell 106 = .ok (.iload_n 1, 1) := by decide +kernel
theorem dX3_tell_107 : decode cX3_tell 107 = .ok (.ireturn, 1) := by decide +kernel
theorem dX3_chair_0 : decode cX3_chair 0 = .ok (.aload_n 0, 1) := by decide +kernel
theorem dX3_chair_1 : decode cX3_chair 1 = .ok (.getfield 10, 3) := by decide +kernel
theorem dX3_chair_4 : decode cX3_chair 4 = .ok (.iload_n 1, 1) := by decide +kernel
theorem dX3_chair_5 : decode cX3_chair 5 = .ok (.invokevirtual 89, 3) := by decide +kernel
theorem dX3_chair_8 : decode cX3_chair 8 = .ok (.astore_n 3, 1) := by decide +kernel
theorem dX3_chair_9 : decode cX3_chair 9 = .ok (.aload_n 3, 1) := by decide +kernel
theorem dX3_chair_10 : decode cX3_chair 10 = .ok (.ifnonnull 13, 3) := by decide +kernel
theorem dX3_chair_13 : decode cX3_chair 13 = .ok (.new 35, 3) := by decide +kernel
theorem dX3_chair_16 : decode cX3_chair 16 = .ok (.dup, 1) := by decide +kernel
theorem dX3_chair_17 : decode cX3_chair 17 = .ok (.ldc 93, 2) := by decide +kernel
theorem dX3_chair_19 : decode cX3_chair 19 = .ok (.invokespecial 39, 3) := by decide +kernel
theorem dX3_chair_22 : decode cX3_chair 22 = .ok (.athrow, 1) := by decide +kernel
theorem dX3_chair_23 : decode cX3_chair 23 = .ok (.iload_n 2, 1) := by decide +kernel
theorem dX3_chair_24 : decode cX3_chair 24 = .ok (.ifCond .lt 9, 3) := by decide +kernel
theorem dX3_chair_27 : decode cX3_chair 27 = .ok (.iload_n 2, 1) := by decide +kernel
theorem dX3_chair_28 : decode cX3_chair 28 = .ok (.bipush 9, 2) := by decide +kernel
theorem dX3_chair_30 : decode cX3_chair 30 = .ok (.if_icmp .lt 13, 3) := by decide +kernel
theorem dX3_chair_33 : decode cX3_chair 33 = .ok (.new 42, 3) := by decide +kernel
theorem dX3_chair_36 : decode cX3_chair 36 = .ok (.dup, 1) := by decide +kernel
theorem dX3_chair_37 : decode cX3_chair 37 = .ok (.ldc 147, 2) := by decide +kernel
theorem dX3_chair_39 : decode cX3_chair 39 = .ok (.invokespecial 46, 3) := by decide +kernel
theorem dX3_chair_42 : decode cX3_chair 42 = .ok (.athrow, 1) := by decide +kernel
theorem dX3_chair_43 : decode cX3_chair 43 = .ok (.aload_n 3, 1) := by decide +kernel
theorem dX3_chair_44 : decode cX3_chair 44 = .ok (.iload_n 2, 1) := by decide +kernel
theorem dX3_chair_45 : decode cX3_chair 45 = .ok (.invokevirtual 149, 3) := by decide +kernel
theorem dX3_chair_48 : decode cX3_chair 48 = .ok (.ireturn, 1) := by decide +kernel
theorem dX3_team_0 : decode cX3_team 0 = .ok (.aload_n 0, 1) := by decide +kernel
theorem dX3_team_1 : decode cX3_team 1 = .ok (.getfield 10, 3) := by decide +kernel
theorem dX3_team_4 : decode cX3_team 4 = .ok (.iload_n 1, 1) := by decide +kernel
theorem dX3_team_5 : decode cX3_team 5 = .ok (.invokevirtual 107, 3) := by decide +kernel
theorem dX3_team_8 : decode cX3_team 8 = .ok (.astore_n 3, 1) := by decide +kernel
theorem dX3_team_9 : decode cX3_team 9 = .ok (.aload_n 3, 1) := by decide +kernel
theorem dX3_team_10 : decode cX3_team 10 = .ok (.ifnonnull 13, 3) := by decide +kernel
theorem dX3_team_13 : decode cX3_team 13 = .ok (.new 35, 3) := by decide +kernel
theorem dX3_team_16 : decode cX3_team 16 = .ok (.dup, 1) := by decide +kernel
theorem dX3_team_17 : decode cX3_team 17 = .ok (.ldc 111, 2) := by decide +kernel
theorem dX3_team_19 : decode cX3_team 19 = .ok (.invokespecial 39, 3) := by decide +kernel
theorem dX3_team_22 : decode cX3_team 22 = .ok (.athrow, 1) := by decide +kernel
theorem dX3_team_23 : decode cX3_team 23 = .ok (.iload_n 2, 1) := by decide +kernel
theorem dX3_team_24 : decode cX3_team 24 = .ok (.ifCond .lt 9, 3) := by decide +kernel
theorem dX3_team_27 : decode cX3_team 27 = .ok (.iload_n 2, 1) := by decide +kernel
theorem dX3_team_28 : decode cX3_team 28 = .ok (.bipush 8, 2) := by decide +kernel
theorem dX3_team_30 : decode cX3_team 30 = .ok (.if_icmp .lt 13, 3) := by decide +kernel
theorem dX3_team_33 : decode cX3_team 33 = .ok (.new 42, 3) := by decide +kernel
theorem dX3_team_36 : decode cX3_team 36 = .ok (.dup, 1) := by decide +kernel
theorem dX3_team_37 : decode cX3_team 37 = .ok (.ldc 147, 2) := by decide +kernel
theorem dX3_team_39 : decode cX3_team 39 = .ok (.invokespecial 46, 3) := by decide +kernel
theorem dX3_team_42 : decode cX3_team 42 = .ok (.athrow, 1) := by decide +kernel
theorem dX3_team_43 : decode cX3_team 43 = .ok (.aload_n 3, 1) := by decide +kernel
theorem dX3_team_44 : decode cX3_team 44 = .ok (.iload_n 2, 1) := by decide +kernel
theorem dX3_team_45 : decode cX3_team 45 = .ok (.invokevirtual 152, 3) := by decide +kernel
theorem dX3_team_48 : decode cX3_team 48 = .ok (.ireturn, 1) := by decide +kernel
theorem dX3_value_0 : decode cX3_value 0 = .ok (.iload_n 1, 1) := by decide +kernel
theorem dX3_value_1 : decode cX3_value 1 = .ok (.ifCond .lt 9, 3) := by decide +kernel
theorem dX3_value_4 : decode cX3_value 4 = .ok (.iload_n 1, 1) := by decide +kernel
theorem dX3_value_5 : decode cX3_value 5 = .ok (.bipush 12, 2) := by decide +kernel
theorem dX3_value_7 : decode cX3_value 7 = .ok (.if_icmp .lt 13, 3) := by decide +kernel
theorem dX3_value_10 : decode cX3_value 10 = .ok (.new 42, 3) := by decide +kernel
theorem dX3_value_13 : decode cX3_value 13 = .ok (.dup, 1) := by decide +kernel
theorem dX3_value_14 : decode cX3_value 14 = .ok (.ldc 147, 2) := by decide +kernel
theorem dX3_value_16 : decode cX3_value 16 = .ok (.invokespecial 46, 3) := by decide +kernel
theorem dX3_value_19 : decode cX3_value 19 = .ok (.athrow, 1) := by decide +kernel
theorem dX3_value_20 : decode cX3_value 20 = .ok (.aload_n 0, 1) := by decide +kernel
theorem dX3_value_21 : decode cX3_value 21 = .ok (.getfield 10, 3) := by decide +kernel
theorem dX3_value_24 : decode cX3_value 24 = .ok (.iload_n 1, 1) := by decide +kernel
theorem dX3_value_25 : decode cX3_value 25 = .ok (.invokevirtual 153, 3) := by decide +kernel
theorem dX3_value_28 : decode cX3_value 28 = .ok (.ireturn, 1) := by decide +kernel
theorem dX3_way_0 : decode cX3_way 0 = .ok (.aload_n 0, 1) := by decide +kernel
theorem dX3_way_1 : decode cX3_way 1 = .ok (.getfield 10, 3) := by decide +kernel
theorem dX3_way_4 : decode cX3_way 4 = .ok (.iload_n 1, 1) := by decide +kernel
theorem dX3_way_5 : decode cX3_way 5 = .ok (.invokevirtual 31, 3) := by decide +kernel
theorem dX3_way_8 : decode cX3_way 8 = .ok (.ifCond .eq 14, 3) := by decide +kernel
theorem dX3_way_11 : decode cX3_way 11 = .ok (.aload_n 0, 1) := by decide +kernel
theorem dX3_way_12 : decode cX3_way 12 = .ok (.getfield 10, 3) := by decide +kernel
theorem dX3_way_15 : decode cX3_way 15 = .ok (.iload_n 2, 1) := by decide +kernel
theorem dX3_way_16 : decode cX3_way 16 = .ok (.invokevirtual 31, 3) := by decide +kernel
theorem dX3_way_19 : decode cX3_way 19 = .ok (.ifCond .ne 13, 3) := by decide +kernel
theorem dX3_way_22 : decode cX3_way 22 = .ok (.new 35, 3) := by decide +kernel
theorem dX3_way_25 : decode cX3_way 25 = .ok (.dup, 1) := by decide +kernel
theorem dX3_way_26 : decode cX3_way 26 = .ok (.ldc 37, 2) := by decide +kernel
theorem dX3_way_28 : decode cX3_way 28 = .ok (.invokespecial 39, 3) := by decide +kernel
theorem dX3_way_31 : decode cX3_way 31 = .ok (.athrow, 1) := by decide +kernel
theorem dX3_way_32 : decode cX3_way 32 = .ok (.aload_n 0, 1) := by decide +kernel
theorem dX3_way_33 : decode cX3_way 33 = .ok (.getfield 10, 3) := by decide +kernel
theorem dX3_way_36 : decode cX3_way 36 = .ok (.iload_n 1, 1) := by decide +kernel
theorem dX3_way_37 : decode cX3_way 37 = .ok (.iload_n 2, 1) := by decide +kernel
theorem dX3_way_38 : decode cX3_way 38 = .ok (.invokevirtual 154, 3) := by decide +kernel
theorem dX3_way_41 : decode cX3_way 41 = .ok (.ireturn, 1) := by decide +kernel
theorem dX3_work_0 : decode cX3_work 0 = .ok (.aload_n 0, 1) := by decide +kernel
theorem dX3_work_1 : decode cX3_work 1 = .ok (.getfield 10, 3) := by decide +kernel
theorem dX3_work_4 : decode cX3_work 4 = .ok (.iload_n 1, 1) := by decide +kernel
theorem dX3_work_5 : decode cX3_work 5 = .ok (.invokevirtual 89, 3) := by decide +kernel
theorem dX3_work_8 : decode cX3_work 8 = .ok (.astore_n 3, 1) := by decide +kernel
theorem dX3_work_9 : decode cX3_work 9 = .ok (.aload_n 0, 1) := by decide +kernel
theorem dX3_work_10 : decode cX3_work 10 = .ok (.getfield 10, 3) := by decide +kernel
theorem dX3_work_13 : decode cX3_work 13 = .ok (.iload_n 2, 1) := by decide +kernel
theorem dX3_work_14 : decode cX3_work 14 = .ok (.invokevirtual 107, 3) := by decide +kernel
theorem dX3_work_17 : decode cX3_work 17 = .ok (.astore 4, 2) := by decide +kernel
theorem dX3_work_19 : decode cX3_work 19 = .ok (.aload_n 3, 1) := by decide +kernel
theorem dX3_work_20 : decode cX3_work 20 = .ok (.ifnull 8, 3) := by decide +kernel
theorem dX3_work_23 : decode cX3_work 23 = .ok (.aload 4, 2) := by decide +kernel
theorem dX3_work_25 : decode cX3_work 25 = .ok (.ifnonnull 13, 3) := by decide +kernel
theorem dX3_work_28 : decode cX3_work 28 = .ok (.new 35, 3) := by decide +kernel
theorem dX3_work_31 : decode cX3_work 31 = .ok (.dup, 1) := by decide +kernel
theorem dX3_work_32 : decode cX3_work 32 = .ok (.ldc 157, 2) := by decide +kernel
theorem dX3_work_34 : decode cX3_work 34 = .ok (.invokespecial 39, 3) := by decide +kernel
theorem dX3_work_37 : decode cX3_work 37 = .ok (.athrow, 1) := by decide +kernel
theorem dX3_work_38 : decode cX3_work 38 = .ok (.aload_n 0, 1) := by decide +kernel
theorem dX3_work_39 : decode cX3_work 39 = .ok (.getfield 10, 3) := by decide +kernel
theorem dX3_work_42 : decode cX3_work 42 = .ok (.aload_n 3, 1) := by decide +kernel
theorem dX3_work_43 : decode cX3_work 43 = .ok (.iload_n 2, 1) := by decide +kernel
theorem dX3_work_44 : decode cX3_work 44 = .ok (.aload 4, 2) := by decide +kernel
theorem dX3_work_46 : decode cX3_work 46 = .ok (.getfield 159, 3) := by decide +kernel
theorem dX3_work_49 : decode cX3_work 49 = .ok (.invokevirtual 162, 3) := by decide +kernel
theorem dX3_work_52 : decode cX3_work 52 = .ok (.ireturn, 1) := by decide +kernel
theorem dX3_journal_0 : decode cX3_journal 0 = .ok (.iload_n 1, 1) := by decide +kernel
theorem dX3_journal_1 : decode cX3_journal 1 = .ok (.ifCond .ge 13, 3) := by decide +kernel
theorem dX3_journal_4 : decode cX3_journal 4 = .ok (.new 35, 3) := by decide +kernel
theorem dX3_journal_7 : decode cX3_journal 7 = .ok (.dup, 1) := by decide +kernel
theorem dX3_journal_8 : decode cX3_journal 8 = .ok (.ldc 166, 2) := by decide +kernel
theorem dX3_journal_10 : decode cX3_journal 10 = .ok (.invokespecial 39, 3) := by decide +kernel
theorem dX3_journal_13 : decode cX3_journal 13 = .ok (.athrow, 1) := by decide +kernel
theorem dX3_journal_14 : decode cX3_journal 14 = .ok (.aload_n 0, 1) := by decide +kernel
theorem dX3_journal_15 : decode cX3_journal 15 = .ok (.getfield 10, 3) := by decide +kernel
theorem dX3_journal_18 : decode cX3_journal 18 = .ok (.iload_n 1, 1) := by decide +kernel
theorem dX3_journal_19 : decode cX3_journal 19 = .ok (.invokevirtual 168, 3) := by decide +kernel
theorem dX3_journal_22 : decode cX3_journal 22 = .ok (.ireturn, 1) := by decide +kernel
theorem dX3_minuteOf_0 : decode cX3_minuteOf 0 = .ok (.aload_n 0, 1) := by decide +kernel
theorem dX3_minuteOf_1 : decode cX3_minuteOf 1 = .ok (.getfield 10, 3) := by decide +kernel
theorem dX3_minuteOf_4 : decode cX3_minuteOf 4 = .ok (.iload_n 1, 1) := by decide +kernel
theorem dX3_minuteOf_5 : decode cX3_minuteOf 5 = .ok (.invokevirtual 89, 3) := by decide +kernel
theorem dX3_minuteOf_8 : decode cX3_minuteOf 8 = .ok (.astore_n 2, 1) := by decide +kernel
theorem dX3_minuteOf_9 : decode cX3_minuteOf 9 = .ok (.aload_n 2, 1) := by decide +kernel
theorem dX3_minuteOf_10 : decode cX3_minuteOf 10 = .ok (.ifnonnull 13, 3) := by decide +kernel
theorem dX3_minuteOf_13 : decode cX3_minuteOf 13 = .ok (.new 35, 3) := by decide +kernel
theorem dX3_minuteOf_16 : decode cX3_minuteOf 16 = .ok (.dup, 1) := by decide +kernel
theorem dX3_minuteOf_17 : decode cX3_minuteOf 17 = .ok (.ldc 93, 2) := by decide +kernel
theorem dX3_minuteOf_19 : decode cX3_minuteOf 19 = .ok (.invokespecial 39, 3) := by decide +kernel
theorem dX3_minuteOf_22 : decode cX3_minuteOf 22 = .ok (.athrow, 1) := by decide +kernel
theorem dX3_minuteOf_23 : decode cX3_minuteOf 23 = .ok (.aload_n 2, 1) := by decide +kernel
theorem dX3_minuteOf_24 : decode cX3_minuteOf 24 = .ok (.getfield 97, 3) := by decide +kernel
theorem dX3_minuteOf_27 : decode cX3_minuteOf 27 = .ok (.iconst 2, 1) := by decide +kernel
theorem dX3_minuteOf_28 : decode cX3_minuteOf 28 = .ok (.if_icmp .ne 8, 3) := by decide +kernel
theorem dX3_minuteOf_31 : decode cX3_minuteOf 31 = .ok (.aload_n 2, 1) := by decide +kernel
theorem dX3_minuteOf_32 : decode cX3_minuteOf 32 = .ok (.getfield 143, 3) := by decide +kernel
theorem dX3_minuteOf_35 : decode cX3_minuteOf 35 = .ok (.ireturn, 1) := by decide +kernel
theorem dX3_minuteOf_36 : decode cX3_minuteOf 36 = .ok (.aload_n 0, 1) := by decide +kernel
theorem dX3_minuteOf_37 : decode cX3_minuteOf 37 = .ok (.getfield 20, 3) := by decide +kernel
theorem dX3_minuteOf_40 : decode cX3_minuteOf 40 = .ok (.aload_n 0, 1) := by decide +kernel
theorem dX3_minuteOf_41 : decode cX3_minuteOf 41 = .ok (.getfield 10, 3) := by decide +kernel
theorem dX3_minuteOf_44 : decode cX3_minuteOf 44 = .ok (.invokevirtual 135, 3) := by decide +kernel
theorem dX3_minuteOf_47 : decode cX3_minuteOf 47 = .ok (.aload_n 0, 1) := by decide +kernel
theorem dX3_minuteOf_48 : decode cX3_minuteOf 48 = .ok (.getfield 20, 3) := by decide +kernel
theorem dX3_minuteOf_51 : decode cX3_minuteOf 51 = .ok (.invokevirtual 139, 3) := by decide +kernel
theorem dX3_minuteOf_54 : decode cX3_minuteOf 54 = .ok (.pop, 1) := by decide +kernel
theorem dX3_minuteOf_55 : decode cX3_minuteOf 55 = .ok (.aload_n 0, 1) := by decide +kernel
theorem dX3_minuteOf_56 : decode cX3_minuteOf 56 = .ok (.getfield 20, 3) := by decide +kernel
theorem dX3_minuteOf_59 : decode cX3_minuteOf 59 = .ok (.iload_n 1, 1) := by decide +kernel
theorem dX3_minuteOf_60 : decode cX3_minuteOf 60 = .ok (.invokevirtual 89, 3) := by decide +kernel
theorem dX3_minuteOf_63 : decode cX3_minuteOf 63 = .ok (.astore_n 3, 1) := by decide +kernel
theorem dX3_minuteOf_64 : decode cX3_minuteOf 64 = .ok (.aload_n 3, 1) := by decide +kernel
theorem dX3_minuteOf_65 : decode cX3_minuteOf 65 = .ok (.ifnonnull 7, 3) := by decide +kernel
theorem dX3_minuteOf_68 : decode cX3_minuteOf 68 = .ok (.iconst (-1), 1) := by decide +kernel
theorem dX3_minuteOf_69 : decode cX3_minuteOf 69 = .ok (.goto 7, 3) := by decide +kernel
theorem dX3_minuteOf_72 : decode cX3_minuteOf 72 = .ok (.aload_n 3, 1) := by decide +kernel
theorem dX3_minuteOf_73 : decode cX3_minuteOf 73 = .ok (.getfield 143, 3) := by decide +kernel
theorem dX3_minuteOf_76 : decode cX3_minuteOf 76 = .ok (.ireturn, 1) := by decide +kernel
theorem dX3_minutesToAll_0 : decode cX3_minutesToAll 0 = .ok (.aload_n 0, 1) := by decide +kernel
theorem dX3_minutesToAll_1 : decode cX3_minutesToAll 1 = .ok (.getfield 20, 3) := by decide +kernel
theorem dX3_minutesToAll_4 : decode cX3_minutesToAll 4 = .ok (.aload_n 0, 1) := by decide +kernel
theorem dX3_minutesToAll_5 : decode cX3_minutesToAll 5 = .ok (.getfield 10, 3) := by decide +kernel
theorem dX3_minutesToAll_8 : decode cX3_minutesToAll 8 = .ok (.invokevirtual 135, 3) := by decide +kernel
theorem dX3_minutesToAll_11 : decode cX3_minutesToAll 11 = .ok (.aload_n 0, 1) := by decide +kernel
theorem dX3_minutesToAll_12 : decode cX3_minutesToAll 12 = .ok (.getfield 20, 3) := by decide +kernel
theorem dX3_minutesToAll_15 : decode cX3_minutesToAll 15 = .ok (.invokevirtual 139, 3) := by decide +kernel
theorem dX3_minutesToAll_18 : decode cX3_minutesToAll 18 = .ok (.ireturn, 1) := by decide +kernel
theorem dX3_bestSpan_0 : decode cX3_bestSpan 0 = .ok (.aload_n 0, 1) := by decide +kernel
theorem dX3_bestSpan_1 : decode cX3_bestSpan 1 = .ok (.getfield 10, 3) := by decide +kernel
theorem dX3_bestSpan_4 : decode cX3_bestSpan 4 = .ok (.getfield 65, 3) := by decide +kernel
theorem dX3_bestSpan_7 : decode cX3_bestSpan 7 = .ok (.iconst 4, 1) := by decide +kernel
theorem dX3_bestSpan_8 : decode cX3_bestSpan 8 = .ok (.if_icmp .lt 5, 3) := by decide +kernel
theorem dX3_bestSpan_11 : decode cX3_bestSpan 11 = .ok (.iconst (-1), 1) := by decide +kernel
theorem dX3_bestSpan_12 : decode cX3_bestSpan 12 = .ok (.ireturn, 1) := by decide +kernel
theorem dX3_bestSpan_13 : decode cX3_bestSpan 13 = .ok (.iconst (-1), 1) := by decide +kernel
theorem dX3_bestSpan_14 : decode cX3_bestSpan 14 = .ok (.istore_n 1, 1) := by decide +kernel
theorem dX3_bestSpan_15 : decode cX3_bestSpan 15 = .ok (.sipush 1001, 3) := by decide +kernel
theorem dX3_bestSpan_18 : decode cX3_bestSpan 18 = .ok (.istore_n 2, 1) := by decide +kernel
theorem dX3_bestSpan_19 : decode cX3_bestSpan 19 = .ok (.iconst 0, 1) := by decide +kernel
theorem dX3_bestSpan_20 : decode cX3_bestSpan 20 = .ok (.istore_n 3, 1) := by decide +kernel
theorem dX3_bestSpan_21 : decode cX3_bestSpan 21 = .ok (.iload_n 3, 1) := by decide +kernel
theorem dX3_bestSpan_22 : decode cX3_bestSpan 22 = .ok (.aload_n 0, 1) := by decide +kernel
theorem dX3_bestSpan_23 : decode cX3_bestSpan 23 = .ok (.getfield 10, 3) := by decide +kernel
theorem dX3_bestSpan_26 : decode cX3_bestSpan 26 = .ok (.getfield 171, 3) := by decide +kernel
theorem dX3_bestSpan_29 : decode cX3_bestSpan 29 = .ok (.if_icmp .ge 56, 3) := by decide +kernel
theorem dX3_bestSpan_32 : decode cX3_bestSpan 32 = .ok (.aload_n 0, 1) := by decide +kernel
theorem dX3_bestSpan_33 : decode cX3_bestSpan 33 = .ok (.getfield 20, 3) := by decide +kernel
theorem dX3_bestSpan_36 : decode cX3_bestSpan 36 = .ok (.aload_n 0, 1) := by decide +kernel
theorem dX3_bestSpan_37 : decode cX3_bestSpan 37 = .ok (.getfield 10, 3) := by decide +kernel
theorem dX3_bestSpan_40 : decode cX3_bestSpan 40 = .ok (.invokevirtual 135, 3) := by decide +kernel
theorem dX3_bestSpan_43 : decode cX3_bestSpan 43 = .ok (.aload_n 0, 1) := by decide +kernel
theorem dX3_bestSpan_44 : decode cX3_bestSpan 44 = .ok (.getfield 20, 3) := by decide +kernel
theorem dX3_bestSpan_47 : decode cX3_bestSpan 47 = .ok (.iload_n 3, 1) := by decide +kernel
theorem dX3_bestSpan_48 : decode cX3_bestSpan 48 = .ok (.iconst 0, 1) := by decide +kernel
theorem dX3_bestSpan_49 : decode cX3_bestSpan 49 = .ok (.invokevirtual 70, 3) := by decide +kernel
theorem dX3_bestSpan_52 : decode cX3_bestSpan 52 = .ok (.pop, 1) := by decide +kernel
theorem dX3_bestSpan_53 : decode cX3_bestSpan 53 = .ok (.aload_n 0, 1) := by decide +kernel
theorem dX3_bestSpan_54 : decode cX3_bestSpan 54 = .ok (.getfield 20, 3) := by decide +kernel
theorem dX3_bestSpan_57 : decode cX3_bestSpan 57 = .ok (.invokevirtual 139, 3) := by decide +kernel
theorem dX3_bestSpan_60 : decode cX3_bestSpan 60 = .ok (.istore 4, 2) := by decide +kernel
theorem dX3_bestSpan_62 : decode cX3_bestSpan 62 = .ok (.iload 4, 2) := by decide +kernel
theorem dX3_bestSpan_64 : decode cX3_bestSpan 64 = .ok (.iconst (-1), 1) := by decide +kernel
theorem dX3_bestSpan_65 : decode cX3_bestSpan 65 = .ok (.if_icmp .eq 14, 3) := by decide +kernel
theorem dX3_bestSpan_68 : decode cX3_bestSpan 68 = .ok (.iload 4, 2) := by decide +kernel
theorem dX3_bestSpan_70 : decode cX3_bestSpan 70 = .ok (.iload_n 2, 1) := by decide +kernel
theorem dX3_bestSpan_71 : decode cX3_bestSpan 71 = .ok (.if_icmp .ge 8, 3) := by decide +kernel
theorem dX3_bestSpan_74 : decode cX3_bestSpan 74 = .ok (.iload_n 3, 1) := by decide +kernel
theorem dX3_bestSpan_75 : decode cX3_bestSpan 75 = .ok (.istore_n 1, 1) := by decide +kernel
theorem dX3_bestSpan_76 : decode cX3_bestSpan 76 = .ok (.iload 4, 2) := by decide +kernel
theorem dX3_bestSpan_78 : decode cX3_bestSpan 78 = .ok (.istore_n 2, 1) := by decide +kernel
theorem dX3_bestSpan_79 : decode cX3_bestSpan 79 = .ok (.iinc 3 1, 3) := by decide +kernel
theorem dX3_bestSpan_82 : decode cX3_bestSpan 82 = .ok (.goto (-61), 3) := by decide +kernel
theorem dX3_bestSpan_85 : decode cX3_bestSpan 85 = .ok (.iload_n 1, 1) := by decide +kernel
theorem dX3_bestSpan_86 : decode cX3_bestSpan 86 = .ok (.ireturn, 1) := by decide +kernel
theorem dX3_chosen_0 : decode cX3_chosen 0 = .ok (.aload_n 0, 1) := by decide +kernel
theorem dX3_chosen_1 : decode cX3_chosen 1 = .ok (.getfield 10, 3) := by decide +kernel
theorem dX3_chosen_4 : decode cX3_chosen 4 = .ok (.iload_n 1, 1) := by decide +kernel
theorem dX3_chosen_5 : decode cX3_chosen 5 = .ok (.invokevirtual 31, 3) := by decide +kernel
theorem dX3_chosen_8 : decode cX3_chosen 8 = .ok (.ifCond .ne 13, 3) := by decide +kernel
theorem dX3_chosen_11 : decode cX3_chosen 11 = .ok (.new 35, 3) := by decide +kernel
theorem dX3_chosen_14 : decode cX3_chosen 14 = .ok (.dup, 1) := by decide +kernel
theorem dX3_chosen_15 : decode cX3_chosen 15 = .ok (.ldc 37, 2) := by decide +kernel
theorem dX3_chosen_17 : decode cX3_chosen 17 = .ok (.invokespecial 39, 3) := by decide +kernel
theorem dX3_chosen_20 : decode cX3_chosen 20 = .ok (.athrow, 1) := by decide +kernel
theorem dX3_chosen_21 : decode cX3_chosen 21 = .ok (.aload_n 0, 1) := by decide +kernel
theorem dX3_chosen_22 : decode cX3_chosen 22 = .ok (.getfield 10, 3) := by decide +kernel
theorem dX3_chosen_25 : decode cX3_chosen 25 = .ok (.iload_n 1, 1) := by decide +kernel
theorem dX3_chosen_26 : decode cX3_chosen 26 = .ok (.invokevirtual 174, 3) := by decide +kernel
theorem dX3_chosen_29 : decode cX3_chosen 29 = .ok (.ireturn, 1) := by decide +kernel
theorem dX3_meanCold_0 : decode cX3_meanCold 0 = .ok (.iconst 0, 1) := by decide +kernel
theorem dX3_meanCold_1 : decode cX3_meanCold 1 = .ok (.istore_n 1, 1) := by decide +kernel
theorem dX3_meanCold_2 : decode cX3_meanCold 2 = .ok (.iconst 0, 1) := by decide +kernel
theorem dX3_meanCold_3 : decode cX3_meanCold 3 = .ok (.istore_n 2, 1) := by decide +kernel
theorem dX3_meanCold_4 : decode cX3_meanCold 4 = .ok (.iconst 0, 1) := by decide +kernel
theorem dX3_meanCold_5 : decode cX3_meanCold 5 = .ok (.istore_n 3, 1) := by decide +kernel
theorem dX3_meanCold_6 : decode cX3_meanCold 6 = .ok (.iload_n 3, 1) := by decide +kernel
theorem dX3_meanCold_7 : decode cX3_meanCold 7 = .ok (.aload_n 0, 1) := by decide +kernel
theorem dX3_meanCold_8 : decode cX3_meanCold 8 = .ok (.getfield 10, 3) := by decide +kernel
theorem dX3_meanCold_11 : decode cX3_meanCold 11 = .ok (.getfield 47, 3) := by decide +kernel
theorem dX3_meanCold_14 : decode cX3_meanCold 14 = .ok (.if_icmp .ge 44, 3) := by decide +kernel
theorem dX3_meanCold_17 : decode cX3_meanCold 17 = .ok (.aload_n 0, 1) := by decide +kernel
theorem dX3_meanCold_18 : decode cX3_meanCold 18 = .ok (.getfield 10, 3) := by decide +kernel
theorem dX3_meanCold_21 : decode cX3_meanCold 21 = .ok (.iload_n 3, 1) := by decide +kernel
theorem dX3_meanCold_22 : decode cX3_meanCold 22 = .ok (.invokevirtual 89, 3) := by decide +kernel
theorem dX3_meanCold_25 : decode cX3_meanCold 25 = .ok (.astore 4, 2) := by decide +kernel
theorem dX3_meanCold_27 : decode cX3_meanCold 27 = .ok (.aload 4, 2) := by decide +kernel
theorem dX3_meanCold_29 : decode cX3_meanCold 29 = .ok (.ifnull 23, 3) := by decide +kernel
theorem dX3_meanCold_32 : decode cX3_meanCold 32 = .ok (.aload 4, 2) := by decide +kernel
theorem dX3_meanCold_34 : decode cX3_meanCold 34 = .ok (.getfield 97, 3) := by decide +kernel
theorem dX3_meanCold_37 : decode cX3_meanCold 37 = .ok (.iconst 2, 1) := by decide +kernel
theorem dX3_meanCold_38 : decode cX3_meanCold 38 = .ok (.if_icmp .eq 14, 3) := by decide +kernel
theorem dX3_meanCold_41 : decode cX3_meanCold 41 = .ok (.iload_n 1, 1) := by decide +kernel
theorem dX3_meanCold_42 : decode cX3_meanCold 42 = .ok (.aload 4, 2) := by decide +kernel
theorem dX3_meanCold_44 : decode cX3_meanCold 44 = .ok (.getfield 104, 3) := by decide +kernel
theorem dX3_meanCold_47 : decode cX3_meanCold 47 = .ok (.iadd, 1) := by decide +kernel
theorem dX3_meanCold_48 : decode cX3_meanCold 48 = .ok (.istore_n 1, 1) := by decide +kernel
theorem dX3_meanCold_49 : decode cX3_meanCold 49 = .ok (.iinc 2 1, 3) := by decide +kernel
theorem dX3_meanCold_52 : decode cX3_meanCold 52 = .ok (.iinc 3 1, 3) := by decide +kernel
theorem dX3_meanCold_55 : decode cX3_meanCold 55 = .ok (.goto (-49), 3) := by decide +kernel
theorem dX3_meanCold_58 : decode cX3_meanCold 58 = .ok (.iload_n 2, 1) := by decide +kernel
theorem dX3_meanCold_59 : decode cX3_meanCold 59 = .ok (.ifCond .ne 7, 3) := by decide +kernel
theorem dX3_meanCold_62 : decode cX3_meanCold 62 = .ok (.dconst 0, 1) := by decide +kernel
theorem dX3_meanCold_63 : decode cX3_meanCold 63 = .ok (.goto 8, 3) := by decide +kernel
theorem dX3_meanCold_66 : decode cX3_meanCold 66 = .ok (.iload_n 1, 1) := by decide +kernel
theorem dX3_meanCold_67 : decode cX3_meanCold 67 = .ok (.i2d, 1) := by decide +kernel
theorem dX3_meanCold_68 : decode cX3_meanCold 68 = .ok (.iload_n 2, 1) := by decide +kernel
theorem dX3_meanCold_69 : decode cX3_meanCold 69 = .ok (.i2d, 1) := by decide +kernel
theorem dX3_meanCold_70 : decode cX3_meanCold 70 = .ok (.ddiv, 1) := by decide +kernel
theorem dX3_meanCold_71 : decode cX3_meanCold 71 = .ok (.dreturn, 1) := by decide +kernel
theorem dX3_append_0 : decode cX3_append 0 = .ok (.iload_n 1, 1) := by decide +kernel
theorem dX3_append_1 : decode cX3_append 1 = .ok (.ifCond .lt 9, 3) := by decide +kernel
theorem dX3_append_4 : decode cX3_append 4 = .ok (.iload_n 1, 1) := by decide +kernel
theorem dX3_append_5 : decode cX3_append 5 = .ok (.bipush 127, 2) := by decide +kernel
theorem dX3_append_7 : decode cX3_append 7 = .ok (.if_icmp .le 13, 3) := by decide +kernel
theorem dX3_append_10 : decode cX3_append 10 = .ok (.new 42, 3) := by decide +kernel
theorem dX3_append_13 : decode cX3_append 13 = .ok (.dup, 1) := by decide +kernel
theorem dX3_append_14 : decode cX3_append 14 = .ok (.ldc 177, 2) := by decide +kernel
theorem dX3_append_16 : decode cX3_append 16 = .ok (.invokespecial 46, 3) := by decide +kernel
theorem dX3_append_19 : decode cX3_append 19 = .ok (.athrow, 1) := by decide +kernel
theorem dX3_append_20 : decode cX3_append 20 = .ok (.aload_n 0, 1) := by decide +kernel
theorem dX3_append_21 : decode cX3_append 21 = .ok (.getfield 179, 3) := by decide +kernel
theorem dX3_append_24 : decode cX3_append 24 = .ok (.ifCond .lt 15, 3) := by decide +kernel
theorem dX3_append_27 : decode cX3_append 27 = .ok (.aload_n 0, 1) := by decide +kernel
theorem dX3_append_28 : decode cX3_append 28 = .ok (.getfield 179, 3) := by decide +kernel
theorem dX3_append_31 : decode cX3_append 31 = .ok (.aload_n 0, 1) := by decide +kernel
theorem dX3_append_32 : decode cX3_append 32 = .ok (.getfield 27, 3) := by decide +kernel
theorem dX3_append_35 : decode cX3_append 35 = .ok (.arraylength, 1) := by decide +kernel
theorem dX3_append_36 : decode cX3_append 36 = .ok (.if_icmp .lt 13, 3) := by decide +kernel
theorem dX3_append_39 : decode cX3_append 39 = .ok (.new 51, 3) := by decide +kernel
theorem dX3_append_42 : decode cX3_append 42 = .ok (.dup, 1) := by decide +kernel
theorem dX3_append_43 : decode cX3_append 43 = .ok (.ldc 182, 2) := by decide +kernel
theorem dX3_append_45 : decode cX3_append 45 = .ok (.invokespecial 55, 3) := by decide +kernel
theorem dX3_append_48 : decode cX3_append 48 = .ok (.athrow, 1) := by decide +kernel
theorem dX3_append_49 : decode cX3_append 49 = .ok (.aload_n 0, 1) := by decide +kernel
theorem dX3_append_50 : decode cX3_append 50 = .ok (.getfield 27, 3) := by decide +kernel
theorem dX3_append_53 : decode cX3_append 53 = .ok (.aload_n 0, 1) := by decide +kernel
theorem dX3_append_54 : decode cX3_append 54 = .ok (.getfield 179, 3) := by decide +kernel
theorem dX3_append_57 : decode cX3_append 57 = .ok (.iload_n 1, 1) := by decide +kernel
theorem dX3_append_58 : decode cX3_append 58 = .ok (.iastore, 1) := by decide +kernel
theorem dX3_append_59 : decode cX3_append 59 = .ok (.aload_n 0, 1) := by decide +kernel
theorem dX3_append_60 : decode cX3_append 60 = .ok (.dup, 1) := by decide +kernel
theorem dX3_append_61 : decode cX3_append 61 = .ok (.getfield 179, 3) := by decide +kernel
theorem dX3_append_64 : decode cX3_append 64 = .ok (.iconst 1, 1) := by decide +kernel
theorem dX3_append_65 : decode cX3_append 65 = .ok (.iadd, 1) := by decide +kernel
theorem dX3_append_66 : decode cX3_append 66 = .ok (.putfield 179, 3) := by decide +kernel
theorem dX3_append_69 : decode cX3_append 69 = .ok (.aload_n 0, 1) := by decide +kernel
theorem dX3_append_70 : decode cX3_append 70 = .ok (.getfield 179, 3) := by decide +kernel
theorem dX3_append_73 : decode cX3_append 73 = .ok (.ireturn, 1) := by decide +kernel
theorem dX3_clearText_0 : decode cX3_clearText 0 = .ok (.aload_n 0, 1) := by decide +kernel
theorem dX3_clearText_1 : decode cX3_clearText 1 = .ok (.getfield 179, 3) := by decide +kernel
theorem dX3_clearText_4 : decode cX3_clearText 4 = .ok (.istore_n 1, 1) := by decide +kernel
theorem dX3_clearText_5 : decode cX3_clearText 5 = .ok (.aload_n 0, 1) := by decide +kernel
theorem dX3_clearText_6 : decode cX3_clearText 6 = .ok (.iconst 0, 1) := by decide +kernel
theorem dX3_clearText_7 : decode cX3_clearText 7 = .ok (.putfield 179, 3) := by decide +kernel
theorem dX3_clearText_10 : decode cX3_clearText 10 = .ok (.iload_n 1, 1) := by decide +kernel
theorem dX3_clearText_11 : decode cX3_clearText 11 = .ok (.ireturn, 1) := by decide +kernel
theorem dX3_parse_0 : decode cX3_parse 0 = .ok (.aload_n 0, 1) := by decide +kernel
theorem dX3_parse_1 : decode cX3_parse 1 = .ok (.aload_n 0, 1) := by decide +kernel
theorem dX3_parse_2 : decode cX3_parse 2 = .ok (.getfield 20, 3) := by decide +kernel
theorem dX3_parse_5 : decode cX3_parse 5 = .ok (.invokevirtual 184, 3) := by decide +kernel
theorem dX3_parse_8 : decode cX3_parse 8 = .ok (.istore_n 1, 1) := by decide +kernel
theorem dX3_parse_9 : decode cX3_parse 9 = .ok (.iload_n 1, 1) := by decide +kernel
theorem dX3_parse_10 : decode cX3_parse 10 = .ok (.iconst (-1), 1) := by decide +kernel
theorem dX3_parse_11 : decode cX3_parse 11 = .ok (.if_icmp .eq 8, 3) := by decide +kernel
theorem dX3_parse_14 : decode cX3_parse 14 = .ok (.bipush (-10), 2) := by decide +kernel
theorem dX3_parse_16 : decode cX3_parse 16 = .ok (.iload_n 1, 1) := by decide +kernel
theorem dX3_parse_17 : decode cX3_parse 17 = .ok (.isub, 1) := by decide +kernel
theorem dX3_parse_18 : decode cX3_parse 18 = .ok (.ireturn, 1) := by decide +kernel
theorem dX3_parse_19 : decode cX3_parse 19 = .ok (.aload_n 0, 1) := by decide +kernel
theorem dX3_parse_20 : decode cX3_parse 20 = .ok (.invokevirtual 56, 3) := by decide +kernel
theorem dX3_parse_23 : decode cX3_parse 23 = .ok (.aload_n 0, 1) := by decide +kernel
theorem dX3_parse_24 : decode cX3_parse 24 = .ok (.getfield 10, 3) := by decide +kernel
theorem dX3_parse_27 : decode cX3_parse 27 = .ok (.aload_n 0, 1) := by decide +kernel
theorem dX3_parse_28 : decode cX3_parse 28 = .ok (.getfield 20, 3) := by decide +kernel
theorem dX3_parse_31 : decode cX3_parse 31 = .ok (.invokevirtual 135, 3) := by decide +kernel
theorem dX3_parse_34 : decode cX3_parse 34 = .ok (.aload_n 0, 1) := by decide +kernel
theorem dX3_parse_35 : decode cX3_parse 35 = .ok (.getfield 10, 3) := by decide +kernel
theorem dX3_parse_38 : decode cX3_parse 38 = .ok (.getfield 47, 3) := by decide +kernel
theorem dX3_parse_41 : decode cX3_parse 41 = .ok (.ireturn, 1) := by decide +kernel
theorem dX3_undo_0 : decode cX3_undo 0 = .ok (.aload_n 0, 1) := by decide +kernel
theorem dX3_undo_1 : decode cX3_undo 1 = .ok (.getfield 188, 3) := by decide +kernel
theorem dX3_undo_4 : decode cX3_undo 4 = .ok (.ifCond .ne 13, 3) := by decide +kernel
theorem dX3_undo_7 : decode cX3_undo 7 = .ok (.new 51, 3) := by decide +kernel
theorem dX3_undo_10 : decode cX3_undo 10 = .ok (.dup, 1) := by decide +kernel
theorem dX3_undo_11 : decode cX3_undo 11 = .ok (.ldc 191, 2) := by decide +kernel
theorem dX3_undo_13 : decode cX3_undo 13 = .ok (.invokespecial 55, 3) := by decide +kernel
theorem dX3_undo_16 : decode cX3_undo 16 = .ok (.athrow, 1) := by decide +kernel
theorem dX3_undo_17 : decode cX3_undo 17 = .ok (.aload_n 0, 1) := by decide +kernel
theorem dX3_undo_18 : decode cX3_undo 18 = .ok (.aload_n 0, 1) := by decide +kernel
theorem dX3_undo_19 : decode cX3_undo 19 = .ok (.getfield 193, 3) := by decide +kernel
theorem dX3_undo_22 : decode cX3_undo 22 = .ok (.iconst 4, 1) := by decide +kernel
theorem dX3_undo_23 : decode cX3_undo 23 = .ok (.iadd, 1) := by decide +kernel
theorem dX3_undo_24 : decode cX3_undo 24 = .ok (.iconst 1, 1) := by decide +kernel
theorem dX3_undo_25 : decode cX3_undo 25 = .ok (.isub, 1) := by decide +kernel
theorem dX3_undo_26 : decode cX3_undo 26 = .ok (.iconst 4, 1) := by decide +kernel
theorem dX3_undo_27 : decode cX3_undo 27 = .ok (.irem, 1) := by decide +kernel
theorem dX3_undo_28 : decode cX3_undo 28 = .ok (.putfield 193, 3) := by decide +kernel
theorem dX3_undo_31 : decode cX3_undo 31 = .ok (.aload_n 0, 1) := by decide +kernel
theorem dX3_undo_32 : decode cX3_undo 32 = .ok (.dup, 1) := by decide +kernel
theorem dX3_undo_33 : decode cX3_undo 33 = .ok (.getfield 188, 3) := by decide +kernel
theorem dX3_undo_36 : decode cX3_undo 36 = .ok (.iconst 1, 1) := by decide +kernel
theorem dX3_undo_37 : decode cX3_undo 37 = .ok (.isub, 1) := by decide +kernel
theorem dX3_undo_38 : decode cX3_undo 38 = .ok (.putfield 188, 3) := by decide +kernel
theorem dX3_undo_41 : decode cX3_undo 41 = .ok (.aload_n 0, 1) := by decide +kernel
theorem dX3_undo_42 : decode cX3_undo 42 = .ok (.aload_n 0, 1) := by decide +kernel
theorem dX3_undo_43 : decode cX3_undo 43 = .ok (.getfield 193, 3) := by decide +kernel
theorem dX3_undo_46 : decode cX3_undo 46 = .ok (.invokevirtual 196, 3) := by decide +kernel
theorem dX3_undo_49 : decode cX3_undo 49 = .ok (.astore_n 1, 1) := by decide +kernel
theorem dX3_undo_50 : decode cX3_undo 50 = .ok (.aload_n 1, 1) := by decide +kernel
theorem dX3_undo_51 : decode cX3_undo 51 = .ok (.ifnull 11, 3) := by decide +kernel
theorem dX3_undo_54 : decode cX3_undo 54 = .ok (.aload_n 0, 1) := by decide +kernel
theorem dX3_undo_55 : decode cX3_undo 55 = .ok (.getfield 10, 3) := by decide +kernel
theorem dX3_undo_58 : decode cX3_undo 58 = .ok (.aload_n 1, 1) := by decide +kernel
theorem dX3_undo_59 : decode cX3_undo 59 = .ok (.invokevirtual 135, 3) := by decide +kernel
theorem dX3_undo_62 : decode cX3_undo 62 = .ok (.aload_n 0, 1) := by decide +kernel
theorem dX3_undo_63 : decode cX3_undo 63 = .ok (.getfield 188, 3) := by decide +kernel
theorem dX3_undo_66 : decode cX3_undo 66 = .ok (.ireturn, 1) := by decide +kernel
theorem dX3_digest_0 : decode cX3_digest 0 = .ok (.aload_n 0, 1) := by decide +kernel
theorem dX3_digest_1 : decode cX3_digest 1 = .ok (.getfield 20, 3) := by decide +kernel
theorem dX3_digest_4 : decode cX3_digest 4 = .ok (.aload_n 0, 1) := by decide +kernel
theorem dX3_digest_5 : decode cX3_digest 5 = .ok (.getfield 10, 3) := by decide +kernel
theorem dX3_digest_8 : decode cX3_digest 8 = .ok (.invokevirtual 135, 3) := by decide +kernel
theorem dX3_digest_11 : decode cX3_digest 11 = .ok (.aload_n 0, 1) := by decide +kernel
theorem dX3_digest_12 : decode cX3_digest 12 = .ok (.getfield 20, 3) := by decide +kernel
theorem dX3_digest_15 : decode cX3_digest 15 = .ok (.invokevirtual 139, 3) := by decide +kernel
theorem dX3_digest_18 : decode cX3_digest 18 = .ok (.istore_n 1, 1) := by decide +kernel
theorem dX3_digest_19 : decode cX3_digest 19 = .ok (.ldc2_w 200, 3) := by decide +kernel
theorem dX3_digest_22 : decode cX3_digest 22 = .ok (.aload_n 0, 1) := by decide +kernel
theorem dX3_digest_23 : decode cX3_digest 23 = .ok (.getfield 179, 3) := by decide +kernel
theorem dX3_digest_26 : decode cX3_digest 26 = .ok (.invokestatic 202, 3) := by decide +kernel
theorem dX3_digest_29 : decode cX3_digest 29 = .ok (.lstore_n 2, 1) := by decide +kernel
theorem dX3_digest_30 : decode cX3_digest 30 = .ok (.iconst 0, 1) := by decide +kernel
theorem dX3_digest_31 : decode cX3_digest 31 = .ok (.istore 4, 2) := by decide +kernel
theorem dX3_digest_33 : decode cX3_digest 33 = .ok (.iload 4, 2) := by decide +kernel
theorem dX3_digest_35 : decode cX3_digest 35 = .ok (.bipush 12, 2) := by decide +kernel
theorem dX3_digest_37 : decode cX3_digest 37 = .ok (.if_icmp .ge 23, 3) := by decide +kernel
theorem dX3_digest_40 : decode cX3_digest 40 = .ok (.lload_n 2, 1) := by decide +kernel
theorem dX3_digest_41 : decode cX3_digest 41 = .ok (.aload_n 0, 1) := by decide +kernel
theorem dX3_digest_42 : decode cX3_digest 42 = .ok (.getfield 10, 3) := by decide +kernel
theorem dX3_digest_45 : decode cX3_digest 45 = .ok (.iload 4, 2) := by decide +kernel
theorem dX3_digest_47 : decode cX3_digest 47 = .ok (.invokevirtual 153, 3) := by decide +kernel
theorem dX3_digest_50 : decode cX3_digest 50 = .ok (.invokestatic 202, 3) := by decide +kernel
theorem dX3_digest_53 : decode cX3_digest 53 = .ok (.lstore_n 2, 1) := by decide +kernel
theorem dX3_digest_54 : decode cX3_digest 54 = .ok (.iinc 4 1, 3) := by decide +kernel
theorem dX3_digest_57 : decode cX3_digest 57 = .ok (.goto (-24), 3) := by decide +kernel
theorem dX3_digest_60 : decode cX3_digest 60 = .ok (.iconst 0, 1) := by decide +kernel
theorem dX3_digest_61 : decode cX3_digest 61 = .ok (.istore 4, 2) := by decide +kernel
theorem dX3_digest_63 : decode cX3_digest 63 = .ok (.iload 4, 2) := by decide +kernel
theorem dX3_digest_65 : decode cX3_digest 65 = .ok (.aload_n 0, 1) := by decide +kernel
theorem dX3_digest_66 : decode cX3_digest 66 = .ok (.getfield 10, 3) := by decide +kernel
theorem dX3_digest_69 : decode cX3_digest 69 = .ok (.getfield 171, 3) := by decide +kernel
theorem dX3_digest_72 : decode cX3_digest 72 = .ok (.iconst 1, 1) := by decide +kernel
theorem dX3_digest_73 : decode cX3_digest 73 = .ok (.isub, 1) := by decide +kernel
theorem dX3_digest_74 : decode cX3_digest 74 = .ok (.if_icmp .ge 23, 3) := by decide +kernel
theorem dX3_digest_77 : decode cX3_digest 77 = .ok (.lload_n 2, 1) := by decide +kernel
theorem dX3_digest_78 : decode cX3_digest 78 = .ok (.aload_n 0, 1) := by decide +kernel
theorem dX3_digest_79 : decode cX3_digest 79 = .ok (.getfield 10, 3) := by decide +kernel
theorem dX3_digest_82 : decode cX3_digest 82 = .ok (.iload 4, 2) := by decide +kernel
theorem dX3_digest_84 : decode cX3_digest 84 = .ok (.invokevirtual 81, 3) := by decide +kernel
theorem dX3_digest_87 : decode cX3_digest 87 = .ok (.invokestatic 202, 3) := by decide +kernel
theorem dX3_digest_90 : decode cX3_digest 90 = .ok (.lstore_n 2, 1) := by decide +kernel
theorem dX3_digest_91 : decode cX3_digest 91 = .ok (.iinc 4 1, 3) := by decide +kernel
theorem dX3_digest_94 : decode cX3_digest 94 = .ok (.goto (-31), 3) := by decide +kernel
theorem dX3_digest_97 : decode cX3_digest 97 = .ok (.aload_n 0, 1) := by decide +kernel
theorem dX3_digest_98 : decode cX3_digest 98 = .ok (.lload_n 2, 1) := by decide +kernel
theorem dX3_digest_99 : decode cX3_digest 99 = .ok (.invokevirtual 206, 3) := by decide +kernel
theorem dX3_digest_102 : decode cX3_digest 102 = .ok (.lstore_n 2, 1) := by decide +kernel
theorem dX3_digest_103 : decode cX3_digest 103 = .ok (.aload_n 0, 1) := by decide +kernel
theorem dX3_digest_104 : decode cX3_digest 104 = .ok (.lload_n 2, 1) := by decide +kernel
theorem dX3_digest_105 : decode cX3_digest 105 = .ok (.invokevirtual 210, 3) := by decide +kernel
theorem dX3_digest_108 : decode cX3_digest 108 = .ok (.lstore_n 2, 1) := by decide +kernel
theorem dX3_digest_109 : decode cX3_digest 109 = .ok (.iconst 0, 1) := by decide +kernel
theorem dX3_digest_110 : decode cX3_digest 110 = .ok (.istore 4, 2) := by decide +kernel
theorem dX3_digest_112 : decode cX3_digest 112 = .ok (.iload 4, 2) := by decide +kernel
theorem dX3_digest_114 : decode cX3_digest 114 = .ok (.aload_n 0, 1) := by decide +kernel
theorem dX3_digest_115 : decode cX3_digest 115 = .ok (.getfield 10, 3) := by decide +kernel
theorem dX3_digest_118 : decode cX3_digest 118 = .ok (.getfield 129, 3) := by decide +kernel
theorem dX3_digest_121 : decode cX3_digest 121 = .ok (.if_icmp .ge 23, 3) := by decide +kernel
theorem dX3_digest_124 : decode cX3_digest 124 = .ok (.lload_n 2, 1) := by decide +kernel
theorem dX3_digest_125 : decode cX3_digest 125 = .ok (.aload_n 0, 1) := by decide +kernel
theorem dX3_digest_126 : decode cX3_digest 126 = .ok (.getfield 10, 3) := by decide +kernel
theorem dX3_digest_129 : decode cX3_digest 129 = .ok (.iload 4, 2) := by decide +kernel
theorem dX3_digest_131 : decode cX3_digest 131 = .ok (.invokevirtual 168, 3) := by decide +kernel
theorem dX3_digest_134 : decode cX3_digest 134 = .ok (.invokestatic 202, 3) := by decide +kernel
theorem dX3_digest_137 : decode cX3_digest 137 = .ok (.lstore_n 2, 1) := by decide +kernel
theorem dX3_digest_138 : decode cX3_digest 138 = .ok (.iinc 4 1, 3) := by decide +kernel
theorem dX3_digest_141 : decode cX3_digest 141 = .ok (.goto (-29), 3) := by decide +kernel
theorem dX3_digest_144 : decode cX3_digest 144 = .ok (.lload_n 2, 1) := by decide +kernel
theorem dX3_digest_145 : decode cX3_digest 145 = .ok (.iload_n 1, 1) := by decide +kernel
theorem dX3_digest_146 : decode cX3_digest 146 = .ok (.invokestatic 202, 3) := by decide +kernel
theorem dX3_digest_149 : decode cX3_digest 149 = .ok (.lstore_n 2, 1) := by decide +kernel
theorem dX3_digest_150 : decode cX3_digest 150 = .ok (.lload_n 2, 1) := by decide +kernel
theorem dX3_digest_151 : decode cX3_digest 151 = .ok (.aload_n 0, 1) := by decide +kernel
theorem dX3_digest_152 : decode cX3_digest 152 = .ok (.getfield 188, 3) := by decide +kernel
theorem dX3_digest_155 : decode cX3_digest 155 = .ok (.invokestatic 202, 3) := by decide +kernel
theorem dX3_digest_158 : decode cX3_digest 158 = .ok (.lreturn, 1) := by decide +kernel
theorem dX3_mix_0 : decode cX3_mix 0 = .ok (.ldc2_w 213, 3) := by decide +kernel
theorem dX3_mix_3 : decode cX3_mix 3 = .ok (.lload_n 0, 1) := by decide +kernel
theorem dX3_mix_4 : decode cX3_mix 4 = .ok (.lmul, 1) := by decide +kernel
theorem dX3_mix_5 : decode cX3_mix 5 = .ok (.iload_n 2, 1) := by decide +kernel
theorem dX3_mix_6 : decode cX3_mix 6 = .ok (.i2l, 1) := by decide +kernel
theorem dX3_mix_7 : decode cX3_mix 7 = .ok (.ladd, 1) := by decide +kernel
theorem dX3_mix_8 : decode cX3_mix 8 = .ok (.lreturn, 1) := by decide +kernel
theorem dX3_mixChairs_0 : decode cX3_mixChairs 0 = .ok (.lload_n 1, 1) := by decide +kernel
theorem dX3_mixChairs_1 : decode cX3_mixChairs 1 = .ok (.lstore_n 3, 1) := by decide +kernel
theorem dX3_mixChairs_2 : decode cX3_mixChairs 2 = .ok (.iconst 0, 1) := by decide +kernel
theorem dX3_mixChairs_3 : decode cX3_mixChairs 3 = .ok (.istore 5, 2) := by decide +kernel
theorem dX3_mixChairs_5 : decode cX3_mixChairs 5 = .ok (.iload 5, 2) := by decide +kernel
theorem dX3_mixChairs_7 : decode cX3_mixChairs 7 = .ok (.aload_n 0, 1) := by decide +kernel
theorem dX3_mixChairs_8 : decode cX3_mixChairs 8 = .ok (.getfield 10, 3) := by decide +kernel
theorem dX3_mixChairs_11 : decode cX3_mixChairs 11 = .ok (.getfield 47, 3) := by decide +kernel
theorem dX3_mixChairs_14 : decode cX3_mixChairs 14 = .ok (.if_icmp .ge 79, 3) := by decide +kernel
theorem dX3_mixChairs_17 : decode cX3_mixChairs 17 = .ok (.aload_n 0, 1) := by decide +kernel
theorem dX3_mixChairs_18 : decode cX3_mixChairs 18 = .ok (.getfield 10, 3) := by decide +kernel
theorem dX3_mixChairs_21 : decode cX3_mixChairs 21 = .ok (.iload 5, 2) := by decide +kernel
theorem dX3_mixChairs_23 : decode cX3_mixChairs 23 = .ok (.invokevirtual 89, 3) := by decide +kernel
theorem dX3_mixChairs_26 : decode cX3_mixChairs 26 = .ok (.astore 6, 2) := by decide +kernel
theorem dX3_mixChairs_28 : decode cX3_mixChairs 28 = .ok (.aload_n 0, 1) := by decide +kernel
theorem dX3_mixChairs_29 : decode cX3_mixChairs 29 = .ok (.getfield 20, 3) := by decide +kernel
theorem dX3_mixChairs_32 : decode cX3_mixChairs 32 = .ok (.iload 5, 2) := by decide +kernel
theorem dX3_mixChairs_34 : decode cX3_mixChairs 34 = .ok (.invokevirtual 89, 3) := by decide +kernel
theorem dX3_mixChairs_37 : decode cX3_mixChairs 37 = .ok (.astore 7, 2) := by decide +kernel
theorem dX3_mixChairs_39 : decode cX3_mixChairs 39 = .ok (.aload 6, 2) := by decide +kernel
theorem dX3_mixChairs_41 : decode cX3_mixChairs 41 = .ok (.ifnull 46, 3) := by decide +kernel
theorem dX3_mixChairs_44 : decode cX3_mixChairs 44 = .ok (.aload 7, 2) := by decide +kernel
theorem dX3_mixChairs_46 : decode cX3_mixChairs 46 = .ok (.ifnull 41, 3) := by decide +kernel
theorem dX3_mixChairs_49 : decode cX3_mixChairs 49 = .ok (.iconst 0, 1) := by decide +kernel
theorem dX3_mixChairs_50 : decode cX3_mixChairs 50 = .ok (.istore 8, 2) := by decide +kernel
theorem dX3_mixChairs_52 : decode cX3_mixChairs 52 = .ok (.iload 8, 2) := by decide +kernel
theorem dX3_mixChairs_54 : decode cX3_mixChairs 54 = .ok (.bipush 9, 2) := by decide +kernel
theorem dX3_mixChairs_56 : decode cX3_mixChairs 56 = .ok (.if_icmp .ge 21, 3) := by decide +kernel
theorem dX3_mixChairs_59 : decode cX3_mixChairs 59 = .ok (.lload_n 3, 1) := by decide +kernel
theorem dX3_mixChairs_60 : decode cX3_mixChairs 60 = .ok (.aload 6, 2) := by decide +kernel
theorem dX3_mixChairs_62 : decode cX3_mixChairs 62 = .ok (.iload 8, 2) := by decide +kernel
theorem dX3_mixChairs_64 : decode cX3_mixChairs 64 = .ok (.invokevirtual 149, 3) := by decide +kernel
theorem dX3_mixChairs_67 : decode cX3_mixChairs 67 = .ok (.invokestatic 202, 3) := by decide +kernel
theorem dX3_mixChairs_70 : decode cX3_mixChairs 70 = .ok (.lstore_n 3, 1) := by decide +kernel
theorem dX3_mixChairs_71 : decode cX3_mixChairs 71 = .ok (.iinc 8 1, 3) := by decide +kernel
theorem dX3_mixChairs_74 : decode cX3_mixChairs 74 = .ok (.goto (-22), 3) := by decide +kernel
theorem dX3_mixChairs_77 : decode cX3_mixChairs 77 = .ok (.lload_n 3, 1) := by decide +kernel
theorem dX3_mixChairs_78 : decode cX3_mixChairs 78 = .ok (.aload 7, 2) := by decide +kernel
theorem dX3_mixChairs_80 : decode cX3_mixChairs 80 = .ok (.getfield 143, 3) := by decide +kernel
theorem dX3_mixChairs_83 : decode cX3_mixChairs 83 = .ok (.invokestatic 202, 3) := by decide +kernel
theorem dX3_mixChairs_86 : decode cX3_mixChairs 86 = .ok (.lstore_n 3, 1) := by decide +kernel
theorem dX3_mixChairs_87 : decode cX3_mixChairs 87 = .ok (.iinc 5 1, 3) := by decide +kernel
theorem dX3_mixChairs_90 : decode cX3_mixChairs 90 = .ok (.goto (-85), 3) := by decide +kernel
theorem dX3_mixChairs_93 : decode cX3_mixChairs 93 = .ok (.lload_n 3, 1) := by decide +kernel
theorem dX3_mixChairs_94 : decode cX3_mixChairs 94 = .ok (.lreturn, 1) := by decide +kernel
theorem dX3_mixTeams_0 : decode cX3_mixTeams 0 = .ok (.lload_n 1, 1) := by decide +kernel
theorem dX3_mixTeams_1 : decode cX3_mixTeams 1 = .ok (.lstore_n 3, 1) := by decide +kernel
theorem dX3_mixTeams_2 : decode cX3_mixTeams 2 = .ok (.iconst 0, 1) := by decide +kernel
theorem dX3_mixTeams_3 : decode cX3_mixTeams 3 = .ok (.istore 5, 2) := by decide +kernel
theorem dX3_mixTeams_5 : decode cX3_mixTeams 5 = .ok (.iload 5, 2) := by decide +kernel
theorem dX3_mixTeams_7 : decode cX3_mixTeams 7 = .ok (.aload_n 0, 1) := by decide +kernel
theorem dX3_mixTeams_8 : decode cX3_mixTeams 8 = .ok (.getfield 10, 3) := by decide +kernel
theorem dX3_mixTeams_11 : decode cX3_mixTeams 11 = .ok (.getfield 65, 3) := by decide +kernel
theorem dX3_mixTeams_14 : decode cX3_mixTeams 14 = .ok (.if_icmp .ge 53, 3) := by decide +kernel
theorem dX3_mixTeams_17 : decode cX3_mixTeams 17 = .ok (.aload_n 0, 1) := by decide +kernel
theorem dX3_mixTeams_18 : decode cX3_mixTeams 18 = .ok (.getfield 10, 3) := by decide +kernel
theorem dX3_mixTeams_21 : decode cX3_mixTeams 21 = .ok (.iload 5, 2) := by decide +kernel
theorem dX3_mixTeams_23 : decode cX3_mixTeams 23 = .ok (.invokevirtual 107, 3) := by decide +kernel
theorem dX3_mixTeams_26 : decode cX3_mixTeams 26 = .ok (.astore 6, 2) := by decide +kernel
theorem dX3_mixTeams_28 : decode cX3_mixTeams 28 = .ok (.aload 6, 2) := by decide +kernel
theorem dX3_mixTeams_30 : decode cX3_mixTeams 30 = .ok (.ifnull 31, 3) := by decide +kernel
theorem dX3_mixTeams_33 : decode cX3_mixTeams 33 = .ok (.iconst 0, 1) := by decide +kernel
theorem dX3_mixTeams_34 : decode cX3_mixTeams 34 = .ok (.istore 7, 2) := by decide +kernel
theorem dX3_mixTeams_36 : decode cX3_mixTeams 36 = .ok (.iload 7, 2) := by decide +kernel
theorem dX3_mixTeams_38 : decode cX3_mixTeams 38 = .ok (.bipush 8, 2) := by decide +kernel
theorem dX3_mixTeams_40 : decode cX3_mixTeams 40 = .ok (.if_icmp .ge 21, 3) := by decide +kernel
theorem dX3_mixTeams_43 : decode cX3_mixTeams 43 = .ok (.lload_n 3, 1) := by decide +kernel
theorem dX3_mixTeams_44 : decode cX3_mixTeams 44 = .ok (.aload 6, 2) := by decide +kernel
theorem dX3_mixTeams_46 : decode cX3_mixTeams 46 = .ok (.iload 7, 2) := by decide +kernel
theorem dX3_mixTeams_48 : decode cX3_mixTeams 48 = .ok (.invokevirtual 152, 3) := by decide +kernel
theorem dX3_mixTeams_51 : decode cX3_mixTeams 51 = .ok (.invokestatic 202, 3) := by decide +kernel
theorem dX3_mixTeams_54 : decode cX3_mixTeams 54 = .ok (.lstore_n 3, 1) := by decide +kernel
theorem dX3_mixTeams_55 : decode cX3_mixTeams 55 = .ok (.iinc 7 1, 3) := by decide +kernel
theorem dX3_mixTeams_58 : decode cX3_mixTeams 58 = .ok (.goto (-22), 3) := by decide +kernel
theorem dX3_mixTeams_61 : decode cX3_mixTeams 61 = .ok (.iinc 5 1, 3) := by decide +kernel
theorem dX3_mixTeams_64 : decode cX3_mixTeams 64 = .ok (.goto (-59), 3) := by decide +kernel
theorem dX3_mixTeams_67 : decode cX3_mixTeams 67 = .ok (.lload_n 3, 1) := by decide +kernel
theorem dX3_mixTeams_68 : decode cX3_mixTeams 68 = .ok (.lreturn, 1) := by decide +kernel
theorem dX3_save_0 : decode cX3_save 0 = .ok (.aload_n 0, 1) := by decide +kernel
theorem dX3_save_1 : decode cX3_save 1 = .ok (.aload_n 0, 1) := by decide +kernel
theorem dX3_save_2 : decode cX3_save 2 = .ok (.getfield 193, 3) := by decide +kernel
theorem dX3_save_5 : decode cX3_save 5 = .ok (.invokevirtual 196, 3) := by decide +kernel
theorem dX3_save_8 : decode cX3_save 8 = .ok (.astore_n 1, 1) := by decide +kernel
theorem dX3_save_9 : decode cX3_save 9 = .ok (.aload_n 1, 1) := by decide +kernel
theorem dX3_save_10 : decode cX3_save 10 = .ok (.ifnull 11, 3) := by decide +kernel
theorem dX3_save_13 : decode cX3_save 13 = .ok (.aload_n 1, 1) := by decide +kernel
theorem dX3_save_14 : decode cX3_save 14 = .ok (.aload_n 0, 1) := by decide +kernel
theorem dX3_save_15 : decode cX3_save 15 = .ok (.getfield 10, 3) := by decide +kernel
theorem dX3_save_18 : decode cX3_save 18 = .ok (.invokevirtual 135, 3) := by decide +kernel
theorem dX3_save_21 : decode cX3_save 21 = .ok (.aload_n 0, 1) := by decide +kernel
theorem dX3_save_22 : decode cX3_save 22 = .ok (.aload_n 0, 1) := by decide +kernel
theorem dX3_save_23 : decode cX3_save 23 = .ok (.getfield 193, 3) := by decide +kernel
theorem dX3_save_26 : decode cX3_save 26 = .ok (.iconst 1, 1) := by decide +kernel
theorem dX3_save_27 : decode cX3_save 27 = .ok (.iadd, 1) := by decide +kernel
theorem dX3_save_28 : decode cX3_save 28 = .ok (.iconst 4, 1) := by decide +kernel
theorem dX3_save_29 : decode cX3_save 29 = .ok (.irem, 1) := by decide +kernel
theorem dX3_save_30 : decode cX3_save 30 = .ok (.putfield 193, 3) := by decide +kernel
theorem dX3_save_33 : decode cX3_save 33 = .ok (.aload_n 0, 1) := by decide +kernel
theorem dX3_save_34 : decode cX3_save 34 = .ok (.iconst 4, 1) := by decide +kernel
theorem dX3_save_35 : decode cX3_save 35 = .ok (.aload_n 0, 1) := by decide +kernel
theorem dX3_save_36 : decode cX3_save 36 = .ok (.getfield 188, 3) := by decide +kernel
theorem dX3_save_39 : decode cX3_save 39 = .ok (.iconst 1, 1) := by decide +kernel
theorem dX3_save_40 : decode cX3_save 40 = .ok (.iadd, 1) := by decide +kernel
theorem dX3_save_41 : decode cX3_save 41 = .ok (.invokestatic 215, 3) := by decide +kernel
theorem dX3_save_44 : decode cX3_save 44 = .ok (.putfield 188, 3) := by decide +kernel
theorem dX3_save_47 : decode cX3_save 47 = .ok (.return_, 1) := by decide +kernel
theorem dX3_savedAt_0 : decode cX3_savedAt 0 = .ok (.iload_n 1, 1) := by decide +kernel
theorem dX3_savedAt_1 : decode cX3_savedAt 1 = .ok (.ifCond .lt 21, 3) := by decide +kernel
theorem dX3_savedAt_4 : decode cX3_savedAt 4 = .ok (.iload_n 1, 1) := by decide +kernel
theorem dX3_savedAt_5 : decode cX3_savedAt 5 = .ok (.aload_n 0, 1) := by decide +kernel
theorem dX3_savedAt_6 : decode cX3_savedAt 6 = .ok (.getfield 23, 3) := by decide +kernel
theorem dX3_savedAt_9 : decode cX3_savedAt 9 = .ok (.arraylength, 1) := by decide +kernel
theorem dX3_savedAt_10 : decode cX3_savedAt 10 = .ok (.if_icmp .ge 12, 3) := by decide +kernel
theorem dX3_savedAt_13 : decode cX3_savedAt 13 = .ok (.aload_n 0, 1) := by decide +kernel
theorem dX3_savedAt_14 : decode cX3_savedAt 14 = .ok (.getfield 23, 3) := by decide +kernel
theorem dX3_savedAt_17 : decode cX3_savedAt 17 = .ok (.iload_n 1, 1) := by decide +kernel
theorem dX3_savedAt_18 : decode cX3_savedAt 18 = .ok (.aaload, 1) := by decide +kernel
theorem dX3_savedAt_19 : decode cX3_savedAt 19 = .ok (.goto 4, 3) := by decide +kernel
theorem dX3_savedAt_22 : decode cX3_savedAt 22 = .ok (.aconst_null, 1) := by decide +kernel
theorem dX3_savedAt_23 : decode cX3_savedAt 23 = .ok (.areturn, 1) := by decide +kernel
theorem dX3_readText_0 : decode cX3_readText 0 = .ok (.aload_n 1, 1) := by decide +kernel
theorem dX3_readText_1 : decode cX3_readText 1 = .ok (.iconst 1, 1) := by decide +kernel
theorem dX3_readText_2 : decode cX3_readText 2 = .ok (.invokevirtual 16, 3) := by decide +kernel
theorem dX3_readText_5 : decode cX3_readText 5 = .ok (.iconst 0, 1) := by decide +kernel
theorem dX3_readText_6 : decode cX3_readText 6 = .ok (.istore_n 2, 1) := by decide +kernel
theorem dX3_readText_7 : decode cX3_readText 7 = .ok (.iconst 0, 1) := by decide +kernel
theorem dX3_readText_8 : decode cX3_readText 8 = .ok (.istore_n 3, 1) := by decide +kernel
theorem dX3_readText_9 : decode cX3_readText 9 = .ok (.iload_n 3, 1) := by decide +kernel
theorem dX3_readText_10 : decode cX3_readText 10 = .ok (.aload_n 0, 1) := by decide +kernel
theorem dX3_readText_11 : decode cX3_readText 11 = .ok (.getfield 179, 3) := by decide +kernel
theorem dX3_readText_14 : decode cX3_readText 14 = .ok (.if_icmp .ge 37, 3) := by decide +kernel
theorem dX3_readText_17 : decode cX3_readText 17 = .ok (.iload_n 3, 1) := by decide +kernel
theorem dX3_readText_18 : decode cX3_readText 18 = .ok (.aload_n 0, 1) := by decide +kernel
theorem dX3_readText_19 : decode cX3_readText 19 = .ok (.getfield 27, 3) := by decide +kernel
theorem dX3_readText_22 : decode cX3_readText 22 = .ok (.arraylength, 1) := by decide +kernel
theorem dX3_readText_23 : decode cX3_readText 23 = .ok (.if_icmp .ge 28, 3) := by decide +kernel
theorem dX3_readText_26 : decode cX3_readText 26 = .ok (.aload_n 1, 1) := by decide +kernel
theorem dX3_readText_27 : decode cX3_readText 27 = .ok (.aload_n 0, 1) := by decide +kernel
theorem dX3_readText_28 : decode cX3_readText 28 = .ok (.getfield 27, 3) := by decide +kernel
theorem dX3_readText_31 : decode cX3_readText 31 = .ok (.iload_n 3, 1) := by decide +kernel
theorem dX3_readText_32 : decode cX3_readText 32 = .ok (.iaload, 1) := by decide +kernel
theorem dX3_readText_33 : decode cX3_readText 33 = .ok (.iload_n 2, 1) := by decide +kernel
theorem dX3_readText_34 : decode cX3_readText 34 = .ok (.invokestatic 220, 3) := by decide +kernel
theorem dX3_readText_37 : decode cX3_readText 37 = .ok (.istore_n 2, 1) := by decide +kernel
theorem dX3_readText_38 : decode cX3_readText 38 = .ok (.iload_n 2, 1) := by decide +kernel
theorem dX3_readText_39 : decode cX3_readText 39 = .ok (.iconst (-1), 1) := by decide +kernel
theorem dX3_readText_40 : decode cX3_readText 40 = .ok (.if_icmp .ne 5, 3) := by decide +kernel
theorem dX3_readText_43 : decode cX3_readText 43 = .ok (.iload_n 3, 1) := by decide +kernel
theorem dX3_readText_44 : decode cX3_readText 44 = .ok (.ireturn, 1) := by decide +kernel
theorem dX3_readText_45 : decode cX3_readText 45 = .ok (.iinc 3 1, 3) := by decide +kernel
theorem dX3_readText_48 : decode cX3_readText 48 = .ok (.goto (-39), 3) := by decide +kernel
theorem dX3_readText_51 : decode cX3_readText 51 = .ok (.iload_n 2, 1) := by decide +kernel
theorem dX3_readText_52 : decode cX3_readText 52 = .ok (.iconst 3, 1) := by decide +kernel
theorem dX3_readText_53 : decode cX3_readText 53 = .ok (.if_icmp .eq 11, 3) := by decide +kernel
theorem dX3_readText_56 : decode cX3_readText 56 = .ok (.aload_n 1, 1) := by decide +kernel
theorem dX3_readText_57 : decode cX3_readText 57 = .ok (.getfield 171, 3) := by decide +kernel
theorem dX3_readText_60 : decode cX3_readText 60 = .ok (.iconst 2, 1) := by decide +kernel
theorem dX3_readText_61 : decode cX3_readText 61 = .ok (.if_icmp .ge 10, 3) := by decide +kernel
theorem dX3_readText_64 : decode cX3_readText 64 = .ok (.aload_n 0, 1) := by decide +kernel
theorem dX3_readText_65 : decode cX3_readText 65 = .ok (.getfield 179, 3) := by decide +kernel
theorem dX3_readText_68 : decode cX3_readText 68 = .ok (.goto 4, 3) := by decide +kernel
theorem dX3_readText_71 : decode cX3_readText 71 = .ok (.iconst (-1), 1) := by decide +kernel
theorem dX3_readText_72 : decode cX3_readText 72 = .ok (.ireturn, 1) := by decide +kernel
theorem dX3_readByte_0 : decode cX3_readByte 0 = .ok (.aload_n 0, 1) := by decide +kernel
theorem dX3_readByte_1 : decode cX3_readByte 1 = .ok (.aload_n 0, 1) := by decide +kernel
theorem dX3_readByte_2 : decode cX3_readByte 2 = .ok (.getfield 47, 3) := by decide +kernel
theorem dX3_readByte_5 : decode cX3_readByte 5 = .ok (.iconst 1, 1) := by decide +kernel
theorem dX3_readByte_6 : decode cX3_readByte 6 = .ok (.isub, 1) := by decide +kernel
theorem dX3_readByte_7 : decode cX3_readByte 7 = .ok (.invokevirtual 89, 3) := by decide +kernel
theorem dX3_readByte_10 : decode cX3_readByte 10 = .ok (.astore_n 3, 1) := by decide +kernel
theorem dX3_readByte_11 : decode cX3_readByte 11 = .ok (.iload_n 2, 1) := by decide +kernel
theorem dX3_readByte_12 : decode cX3_readByte 12 = .ok (.iconst 3, 1) := by decide +kernel
theorem dX3_readByte_13 : decode cX3_readByte 13 = .ok (.if_icmp .ne 31, 3) := by decide +kernel
theorem dX3_readByte_16 : decode cX3_readByte 16 = .ok (.aload_n 3, 1) := by decide +kernel
theorem dX3_readByte_17 : decode cX3_readByte 17 = .ok (.ifnull 15, 3) := by decide +kernel
theorem dX3_readByte_20 : decode cX3_readByte 20 = .ok (.iload_n 1, 1) := by decide +kernel
theorem dX3_readByte_21 : decode cX3_readByte 21 = .ok (.bipush 48, 2) := by decide +kernel
theorem dX3_readByte_23 : decode cX3_readByte 23 = .ok (.if_icmp .lt 9, 3) := by decide +kernel
theorem dX3_readByte_26 : decode cX3_readByte 26 = .ok (.iload_n 1, 1) := by decide +kernel
theorem dX3_readByte_27 : decode cX3_readByte 27 = .ok (.bipush 57, 2) := by decide +kernel
theorem dX3_readByte_29 : decode cX3_readByte 29 = .ok (.if_icmp .le 5, 3) := by decide +kernel
theorem dX3_readByte_32 : decode cX3_readByte 32 = .ok (.iconst (-1), 1) := by decide +kernel
theorem dX3_readByte_33 : decode cX3_readByte 33 = .ok (.ireturn, 1) := by decide +kernel
theorem dX3_readByte_34 : decode cX3_readByte 34 = .ok (.aload_n 3, 1) := by decide +kernel
theorem dX3_readByte_35 : decode cX3_readByte 35 = .ok (.iload_n 1, 1) := by decide +kernel
theorem dX3_readByte_36 : decode cX3_readByte 36 = .ok (.bipush 48, 2) := by decide +kernel
theorem dX3_readByte_38 : decode cX3_readByte 38 = .ok (.isub, 1) := by decide +kernel
theorem dX3_readByte_39 : decode cX3_readByte 39 = .ok (.putfield 104, 3) := by decide +kernel
theorem dX3_readByte_42 : decode cX3_readByte 42 = .ok (.iconst 0, 1) := by decide +kernel
theorem dX3_readByte_43 : decode cX3_readByte 43 = .ok (.ireturn, 1) := by decide +kernel
theorem dX3_readByte_44 : decode cX3_readByte 44 = .ok (.iload_n 1, 1) := by decide +kernel
theorem dX3_readByte_45 : decode cX3_readByte 45 = .ok (.bipush 43, 2) := by decide +kernel
theorem dX3_readByte_47 : decode cX3_readByte 47 = .ok (.if_icmp .ne 19, 3) := by decide +kernel
theorem dX3_readByte_50 : decode cX3_readByte 50 = .ok (.iload_n 2, 1) := by decide +kernel
theorem dX3_readByte_51 : decode cX3_readByte 51 = .ok (.iconst 1, 1) := by decide +kernel
theorem dX3_readByte_52 : decode cX3_readByte 52 = .ok (.if_icmp .eq 8, 3) := by decide +kernel
theorem dX3_readByte_55 : decode cX3_readByte 55 = .ok (.iload_n 2, 1) := by decide +kernel
theorem dX3_readByte_56 : decode cX3_readByte 56 = .ok (.iconst 2, 1) := by decide +kernel
theorem dX3_readByte_57 : decode cX3_readByte 57 = .ok (.if_icmp .ne 7, 3) := by decide +kernel
theorem dX3_readByte_60 : decode cX3_readByte 60 = .ok (.iconst 3, 1) := by decide +kernel
theorem dX3_readByte_61 : decode cX3_readByte 61 = .ok (.goto 4, 3) := by decide +kernel
theorem dX3_readByte_64 : decode cX3_readByte 64 = .ok (.iconst (-1), 1) := by decide +kernel
theorem dX3_readByte_65 : decode cX3_readByte 65 = .ok (.ireturn, 1) := by decide +kernel
theorem dX3_readByte_66 : decode cX3_readByte 66 = .ok (.iload_n 1, 1) := by decide +kernel
theorem dX3_readByte_67 : decode cX3_readByte 67 = .ok (.bipush 99, 2) := by decide +kernel
theorem dX3_readByte_69 : decode cX3_readByte 69 = .ok (.if_icmp .ne 21, 3) := by decide +kernel
theorem dX3_readByte_72 : decode cX3_readByte 72 = .ok (.aload_n 3, 1) := by decide +kernel
theorem dX3_readByte_73 : decode cX3_readByte 73 = .ok (.ifnull 8, 3) := by decide +kernel
theorem dX3_readByte_76 : decode cX3_readByte 76 = .ok (.iload_n 2, 1) := by decide +kernel
theorem dX3_readByte_77 : decode cX3_readByte 77 = .ok (.iconst 1, 1) := by decide +kernel
theorem dX3_readByte_78 : decode cX3_readByte 78 = .ok (.if_icmp .eq 5, 3) := by decide +kernel
theorem dX3_readByte_81 : decode cX3_readByte 81 = .ok (.iconst (-1), 1) := by decide +kernel
theorem dX3_readByte_82 : decode cX3_readByte 82 = .ok (.ireturn, 1) := by decide +kernel
theorem dX3_readByte_83 : decode cX3_readByte 83 = .ok (.aload_n 3, 1) := by decide +kernel
theorem dX3_readByte_84 : decode cX3_readByte 84 = .ok (.iconst 1, 1) := by decide +kernel
theorem dX3_readByte_85 : decode cX3_readByte 85 = .ok (.putfield 224, 3) := by decide +kernel
theorem dX3_readByte_88 : decode cX3_readByte 88 = .ok (.iconst 2, 1) := by decide +kernel
theorem dX3_readByte_89 : decode cX3_readByte 89 = .ok (.ireturn, 1) := by decide +kernel
theorem dX3_readByte_90 : decode cX3_readByte 90 = .ok (.iload_n 1, 1) := by decide +kernel
theorem dX3_readByte_91 : decode cX3_readByte 91 = .ok (.bipush 124, 2) := by decide +kernel
theorem dX3_readByte_93 : decode cX3_readByte 93 = .ok (.if_icmp .ne 26, 3) := by decide +kernel
theorem dX3_readByte_96 : decode cX3_readByte 96 = .ok (.aload_n 0, 1) := by decide +kernel
theorem dX3_readByte_97 : decode cX3_readByte 97 = .ok (.getfield 171, 3) := by decide +kernel
theorem dX3_readByte_100 : decode cX3_readByte 100 = .ok (.bipush 7, 2) := by decide +kernel
theorem dX3_readByte_102 : decode cX3_readByte 102 = .ok (.if_icmp .lt 5, 3) := by decide +kernel
theorem dX3_readByte_105 : decode cX3_readByte 105 = .ok (.iconst (-1), 1) := by decide +kernel
theorem dX3_readByte_106 : decode cX3_readByte 106 = .ok (.ireturn, 1) := by decide +kernel
theorem dX3_readByte_107 : decode cX3_readByte 107 = .ok (.aload_n 0, 1) := by decide +kernel
theorem dX3_readByte_108 : decode cX3_readByte 108 = .ok (.dup, 1) := by decide +kernel
theorem dX3_readByte_109 : decode cX3_readByte 109 = .ok (.getfield 171, 3) := by decide +kernel
theorem dX3_readByte_112 : decode cX3_readByte 112 = .ok (.iconst 1, 1) := by decide +kernel
theorem dX3_readByte_113 : decode cX3_readByte 113 = .ok (.iadd, 1) := by decide +kernel
theorem dX3_readByte_114 : decode cX3_readByte 114 = .ok (.putfield 171, 3) := by decide +kernel
theorem dX3_readByte_117 : decode cX3_readByte 117 = .ok (.iconst 0, 1) := by decide +kernel
theorem dX3_readByte_118 : decode cX3_readByte 118 = .ok (.ireturn, 1) := by decide +kernel
theorem dX3_readByte_119 : decode cX3_readByte 119 = .ok (.iload_n 1, 1) := by decide +kernel
theorem dX3_readByte_120 : decode cX3_readByte 120 = .ok (.bipush 49, 2) := by decide +kernel
theorem dX3_readByte_122 : decode cX3_readByte 122 = .ok (.if_icmp .lt 18, 3) := by decide +kernel
theorem dX3_readByte_125 : decode cX3_readByte 125 = .ok (.iload_n 1, 1) := by decide +kernel
theorem dX3_readByte_126 : decode cX3_readByte 126 = .ok (.bipush 52, 2) := by decide +kernel
theorem dX3_readByte_128 : decode cX3_readByte 128 = .ok (.if_icmp .gt 12, 3) := by decide +kernel
theorem dX3_readByte_131 : decode cX3_readByte 131 = .ok (.aload_n 0, 1) := by decide +kernel
theorem dX3_readByte_132 : decode cX3_readByte 132 = .ok (.getfield 47, 3) := by decide +kernel
theorem dX3_readByte_135 : decode cX3_readByte 135 = .ok (.bipush 14, 2) := by decide +kernel
theorem dX3_readByte_137 : decode cX3_readByte 137 = .ok (.if_icmp .lt 5, 3) := by decide +kernel
theorem dX3_readByte_140 : decode cX3_readByte 140 = .ok (.iconst (-1), 1) := by decide +kernel
theorem dX3_readByte_141 : decode cX3_readByte 141 = .ok (.ireturn, 1) := by decide +kernel
theorem dX3_readByte_142 : decode cX3_readByte 142 = .ok (.aload_n 0, 1) := by decide +kernel
theorem dX3_readByte_143 : decode cX3_readByte 143 = .ok (.aload_n 0, 1) := by decide +kernel
theorem dX3_readByte_144 : decode cX3_readByte 144 = .ok (.getfield 171, 3) := by decide +kernel
theorem dX3_readByte_147 : decode cX3_readByte 147 = .ok (.iconst 1, 1) := by decide +kernel
theorem dX3_readByte_148 : decode cX3_readByte 148 = .ok (.isub, 1) := by decide +kernel
theorem dX3_readByte_149 : decode cX3_readByte 149 = .ok (.iload_n 1, 1) := by decide +kernel
theorem dX3_readByte_150 : decode cX3_readByte 150 = .ok (.bipush 48, 2) := by decide +kernel
theorem dX3_readByte_152 : decode cX3_readByte 152 = .ok (.isub, 1) := by decide +kernel
theorem dX3_readByte_153 : decode cX3_readByte 153 = .ok (.iconst 0, 1) := by decide +kernel
theorem dX3_readByte_154 : decode cX3_readByte 154 = .ok (.iconst 0, 1) := by decide +kernel
theorem dX3_readByte_155 : decode cX3_readByte 155 = .ok (.invokevirtual 59, 3) := by decide +kernel
theorem dX3_readByte_158 : decode cX3_readByte 158 = .ok (.pop, 1) := by decide +kernel
theorem dX3_readByte_159 : decode cX3_readByte 159 = .ok (.iconst 1, 1) := by decide +kernel
theorem dX3_readByte_160 : decode cX3_readByte 160 = .ok (.ireturn, 1) := by decide +kernel
theorem dX4_init_0 : decode cX4_init 0 = .ok (.aload_n 0, 1) := by decide +kernel
theorem dX4_init_1 : decode cX4_init 1 = .ok (.invokespecial 1, 3) := by decide +kernel
theorem dX4_init_4 : decode cX4_init 4 = .ok (.aload_n 0, 1) := by decide +kernel
theorem dX4_init_5 : decode cX4_init 5 = .ok (.sipush 171, 3) := by decide +kernel
theorem dX4_init_8 : decode cX4_init 8 = .ok (.newarray .int, 2) := by decide +kernel
theorem dX4_init_10 : decode cX4_init 10 = .ok (.putfield 7, 3) := by decide +kernel
theorem dX4_init_13 : decode cX4_init 13 = .ok (.aload_n 0, 1) := by decide +kernel
theorem dX4_init_14 : decode cX4_init 14 = .ok (.sipush 684, 3) := by decide +kernel
theorem dX4_init_17 : decode cX4_init 17 = .ok (.newarray .int, 2) := by decide +kernel
theorem dX4_init_19 : decode cX4_init 19 = .ok (.putfield 13, 3) := by decide +kernel
theorem dX4_init_22 : decode cX4_init 22 = .ok (.aload_n 0, 1) := by decide +kernel
theorem dX4_init_23 : decode cX4_init 23 = .ok (.sipush 171, 3) := by decide +kernel
theorem dX4_init_26 : decode cX4_init 26 = .ok (.newarray .int, 2) := by decide +kernel
theorem dX4_init_28 : decode cX4_init 28 = .ok (.putfield 16, 3) := by decide +kernel
theorem dX4_init_31 : decode cX4_init 31 = .ok (.aload_n 0, 1) := by decide +kernel
theorem dX4_init_32 : decode cX4_init 32 = .ok (.sipush 171, 3) := by decide +kernel
theorem dX4_init_35 : decode cX4_init 35 = .ok (.newarray .int, 2) := by decide +kernel
theorem dX4_init_37 : decode cX4_init 37 = .ok (.putfield 19, 3) := by decide +kernel
theorem dX4_init_40 : decode cX4_init 40 = .ok (.aload_n 0, 1) := by decide +kernel
theorem dX4_init_41 : decode cX4_init 41 = .ok (.bipush 100, 2) := by decide +kernel
theorem dX4_init_43 : decode cX4_init 43 = .ok (.newarray .int, 2) := by decide +kernel
theorem dX4_init_45 : decode cX4_init 45 = .ok (.putfield 22, 3) := by decide +kernel
theorem dX4_init_48 : decode cX4_init 48 = .ok (.aload_n 0, 1) := by decide +kernel
theorem dX4_init_49 : decode cX4_init 49 = .ok (.bipush 14, 2) := by decide +kernel
theorem dX4_init_51 : decode cX4_init 51 = .ok (.newarray .int, 2) := by decide +kernel
theorem dX4_init_53 : decode cX4_init 53 = .ok (.putfield 25, 3) := by decide +kernel
theorem dX4_init_56 : decode cX4_init 56 = .ok (.aload_n 0, 1) := by decide +kernel
theorem dX4_init_57 : decode cX4_init 57 = .ok (.getfield 7, 3) := by decide +kernel
theorem dX4_init_60 : decode cX4_init 60 = .ok (.iconst 0, 1) := by decide +kernel
theorem dX4_init_61 : decode cX4_init 61 = .ok (.iconst 3, 1) := by decide +kernel
theorem dX4_init_62 : decode cX4_init 62 = .ok (.iastore, 1) := by decide +kernel
theorem dX4_init_63 : decode cX4_init 63 = .ok (.iconst 0, 1) := by decide +kernel
theorem dX4_init_64 : decode cX4_init 64 = .ok (.istore_n 1, 1) := by decide +kernel
theorem dX4_init_65 : decode cX4_init 65 = .ok (.iload_n 1, 1) := by decide +kernel
theorem dX4_init_66 : decode cX4_init 66 = .ok (.bipush 6, 2) := by decide +kernel
theorem dX4_init_68 : decode cX4_init 68 = .ok (.if_icmp .ge 18, 3) := by decide +kernel
theorem dX4_init_71 : decode cX4_init 71 = .ok (.aload_n 0, 1) := by decide +kernel
theorem dX4_init_72 : decode cX4_init 72 = .ok (.getfield 7, 3) := by decide +kernel
theorem dX4_init_75 : decode cX4_init 75 = .ok (.iconst 1, 1) := by decide +kernel
theorem dX4_init_76 : decode cX4_init 76 = .ok (.iload_n 1, 1) := by decide +kernel
theorem dX4_init_77 : decode cX4_init 77 = .ok (.iadd, 1) := by decide +kernel
theorem dX4_init_78 : decode cX4_init 78 = .ok (.iconst 4, 1) := by decide +kernel
theorem dX4_init_79 : decode cX4_init 79 = .ok (.iastore, 1) := by decide +kernel
theorem dX4_init_80 : decode cX4_init 80 = .ok (.iinc 1 1, 3) := by decide +kernel
theorem dX4_init_83 : decode cX4_init 83 = .ok (.goto (-18), 3) := by decide +kernel
theorem dX4_init_86 : decode cX4_init 86 = .ok (.return_, 1) := by decide +kernel
theorem dX4_thrown_0 : decode cX4_thrown 0 = .ok (.aload_n 0, 1) := by decide +kernel
theorem dX4_thrown_1 : decode cX4_thrown 1 = .ok (.getfield 28, 3) := by decide +kernel
theorem dX4_thrown_4 : decode cX4_thrown 4 = .ok (.ireturn, 1) := by decide +kernel
theorem dX4_in_0 : decode cX4_in 0 = .ok (.iload_n 0, 1) := by decide +kernel
theorem dX4_in_1 : decode cX4_in 1 = .ok (.iload_n 1, 1) := by decide +kernel
theorem dX4_in_2 : decode cX4_in 2 = .ok (.if_icmp .lt 12, 3) := by decide +kernel
theorem dX4_in_5 : decode cX4_in 5 = .ok (.iload_n 0, 1) := by decide +kernel
theorem dX4_in_6 : decode cX4_in 6 = .ok (.iload_n 2, 1) := by decide +kernel
theorem dX4_in_7 : decode cX4_in 7 = .ok (.if_icmp .gt 7, 3) := by decide +kernel
theorem dX4_in_10 : decode cX4_in 10 = .ok (.iconst 1, 1) := by decide +kernel
theorem dX4_in_11 : decode cX4_in 11 = .ok (.goto 4, 3) := by decide +kernel
theorem dX4_in_14 : decode cX4_in 14 = .ok (.iconst 0, 1) := by decide +kernel
theorem dX4_in_15 : decode cX4_in 15 = .ok (.ireturn, 1) := by decide +kernel
theorem dX4_fails_0 : decode cX4_fails 0 = .ok (.aload_n 0, 1) := by decide +kernel
theorem dX4_fails_1 : decode cX4_fails 1 = .ok (.iload_n 1, 1) := by decide +kernel
theorem dX4_fails_2 : decode cX4_fails 2 = .ok (.putfield 28, 3) := by decide +kernel
theorem dX4_fails_5 : decode cX4_fails 5 = .ok (.iconst 0, 1) := by decide +kernel
theorem dX4_fails_6 : decode cX4_fails 6 = .ok (.ireturn, 1) := by decide +kernel
theorem dX4_tells_0 : decode cX4_tells 0 = .ok (.aload_n 0, 1) := by decide +kernel
theorem dX4_tells_1 : decode cX4_tells 1 = .ok (.iconst 0, 1) := by decide +kernel
theorem dX4_tells_2 : decode cX4_tells 2 = .ok (.putfield 28, 3) := by decide +kernel
theorem dX4_tells_5 : decode cX4_tells 5 = .ok (.iload_n 1, 1) := by decide +kernel
theorem dX4_tells_6 : decode cX4_tells 6 = .ok (.ireturn, 1) := by decide +kernel
theorem dX4_copies_0 : decode cX4_copies 0 = .ok (.iconst 0, 1) := by decide +kernel
theorem dX4_copies_1 : decode cX4_copies 1 = .ok (.istore_n 2, 1) := by decide +kernel
theorem dX4_copies_2 : decode cX4_copies 2 = .ok (.iload_n 2, 1) := by decide +kernel
theorem dX4_copies_3 : decode cX4_copies 3 = .ok (.sipush 171, 3) := by decide +kernel
theorem dX4_copies_6 : decode cX4_copies 6 = .ok (.if_icmp .ge 15, 3) := by decide +kernel
theorem dX4_copies_9 : decode cX4_copies 9 = .ok (.aload_n 0, 1) := by decide +kernel
theorem dX4_copies_10 : decode cX4_copies 10 = .ok (.iload_n 2, 1) := by decide +kernel
theorem dX4_copies_11 : decode cX4_copies 11 = .ok (.aload_n 1, 1) := by decide +kernel
theorem dX4_copies_12 : decode cX4_copies 12 = .ok (.iload_n 2, 1) := by decide +kernel
theorem dX4_copies_13 : decode cX4_copies 13 = .ok (.iaload, 1) := by decide +kernel
theorem dX4_copies_14 : decode cX4_copies 14 = .ok (.iastore, 1) := by decide +kernel
theorem dX4_copies_15 : decode cX4_copies 15 = .ok (.iinc 2 1, 3) := by decide +kernel
theorem dX4_copies_18 : decode cX4_copies 18 = .ok (.goto (-16), 3) := by decide +kernel
theorem dX4_copies_21 : decode cX4_copies 21 = .ok (.return_, 1) := by decide +kernel
theorem dX4_hold_0 : decode cX4_hold 0 = .ok (.aload_n 0, 1) := by decide +kernel
theorem dX4_hold_1 : decode cX4_hold 1 = .ok (.getfield 16, 3) := by decide +kernel
theorem dX4_hold_4 : decode cX4_hold 4 = .ok (.aload_n 0, 1) := by decide +kernel
theorem dX4_hold_5 : decode cX4_hold 5 = .ok (.getfield 7, 3) := by decide +kernel
theorem dX4_hold_8 : decode cX4_hold 8 = .ok (.invokestatic 32, 3) := by decide +kernel
theorem dX4_hold_11 : decode cX4_hold 11 = .ok (.return_, 1) := by decide +kernel
theorem dX4_ends_0 : decode cX4_ends 0 = .ok (.aload_n 0, 1) := by decide +kernel
theorem dX4_ends_1 : decode cX4_ends 1 = .ok (.getfield 36, 3) := by decide +kernel
theorem dX4_ends_4 : decode cX4_ends 4 = .ok (.iconst 4, 1) := by decide +kernel
theorem dX4_ends_5 : decode cX4_ends 5 = .ok (.if_icmp .ne 44, 3) := by decide +kernel
theorem dX4_ends_8 : decode cX4_ends 8 = .ok (.iconst 0, 1) := by decide +kernel
theorem dX4_ends_9 : decode cX4_ends 9 = .ok (.istore_n 2, 1) := by decide +kernel
theorem dX4_ends_10 : decode cX4_ends 10 = .ok (.iload_n 2, 1) := by decide +kernel
theorem dX4_ends_11 : decode cX4_ends 11 = .ok (.sipush 513, 3) := by decide +kernel
theorem dX4_ends_14 : decode cX4_ends 14 = .ok (.if_icmp .ge 25, 3) := by decide +kernel
theorem dX4_ends_17 : decode cX4_ends 17 = .ok (.aload_n 0, 1) := by decide +kernel
theorem dX4_ends_18 : decode cX4_ends 18 = .ok (.getfield 13, 3) := by decide +kernel
theorem dX4_ends_21 : decode cX4_ends 21 = .ok (.iload_n 2, 1) := by decide +kernel
theorem dX4_ends_22 : decode cX4_ends 22 = .ok (.aload_n 0, 1) := by decide +kernel
theorem dX4_ends_23 : decode cX4_ends 23 = .ok (.getfield 13, 3) := by decide +kernel
theorem dX4_ends_26 : decode cX4_ends 26 = .ok (.iload_n 2, 1) := by decide +kernel
theorem dX4_ends_27 : decode cX4_ends 27 = .ok (.sipush 171, 3) := by decide +kernel
theorem dX4_ends_30 : decode cX4_ends 30 = .ok (.iadd, 1) := by decide +kernel
theorem dX4_ends_31 : decode cX4_ends 31 = .ok (.iaload, 1) := by decide +kernel
theorem dX4_ends_32 : decode cX4_ends 32 = .ok (.iastore, 1) := by decide +kernel
theorem dX4_ends_33 : decode cX4_ends 33 = .ok (.iinc 2 1, 3) := by decide +kernel
theorem dX4_ends_36 : decode cX4_ends 36 = .ok (.goto (-26), 3) := by decide +kernel
theorem dX4_ends_39 : decode cX4_ends 39 = .ok (.aload_n 0, 1) := by decide +kernel
theorem dX4_ends_40 : decode cX4_ends 40 = .ok (.dup, 1) := by decide +kernel
theorem dX4_ends_41 : decode cX4_ends 41 = .ok (.getfield 36, 3) := by decide +kernel
theorem dX4_ends_44 : decode cX4_ends 44 = .ok (.iconst 1, 1) := by decide +kernel
theorem dX4_ends_45 : decode cX4_ends 45 = .ok (.isub, 1) := by decide +kernel
theorem dX4_ends_46 : decode cX4_ends 46 = .ok (.putfield 36, 3) := by decide +kernel
theorem dX4_ends_49 : decode cX4_ends 49 = .ok (.iconst 0, 1) := by decide +kernel
theorem dX4_ends_50 : decode cX4_ends 50 = .ok (.istore_n 2, 1) := by decide +kernel
theorem dX4_ends_51 : decode cX4_ends 51 = .ok (.iload_n 2, 1) := by decide +kernel
theorem dX4_ends_52 : decode cX4_ends 52 = .ok (.sipush 171, 3) := by decide +kernel
theorem dX4_ends_55 : decode cX4_ends 55 = .ok (.if_icmp .ge 30, 3) := by decide +kernel
theorem dX4_ends_58 : decode cX4_ends 58 = .ok (.aload_n 0, 1) := by decide +kernel
theorem dX4_ends_59 : decode cX4_ends 59 = .ok (.getfield 13, 3) := by decide +kernel
theorem dX4_ends_62 : decode cX4_ends 62 = .ok (.sipush 171, 3) := by decide +kernel
theorem dX4_ends_65 : decode cX4_ends 65 = .ok (.aload_n 0, 1) := by decide +kernel
theorem dX4_ends_66 : decode cX4_ends 66 = .ok (.getfield 36, 3) := by decide +kernel
theorem dX4_ends_69 : decode cX4_ends 69 = .ok (.imul, 1) := by decide +kernel
theorem dX4_ends_70 : decode cX4_ends 70 = .ok (.iload_n 2, 1) := by decide +kernel
theorem dX4_ends_71 : decode cX4_ends 71 = .ok (.iadd, 1) := by decide +kernel
theorem dX4_ends_72 : decode cX4_ends 72 = .ok (.aload_n 0, 1) := by decide +kernel
theorem dX4_ends_73 : decode cX4_ends 73 = .ok (.getfield 16, 3) := by decide +kernel
theorem dX4_ends_76 : decode cX4_ends 76 = .ok (.iload_n 2, 1) := by decide +kernel
theorem dX4_ends_77 : decode cX4_ends 77 = .ok (.iaload, 1) := by decide +kernel
theorem dX4_ends_78 : decode cX4_ends 78 = .ok (.iastore, 1) := by decide +kernel
theorem dX4_ends_79 : decode cX4_ends 79 = .ok (.iinc 2 1, 3) := by decide +kernel
theorem dX4_ends_82 : decode cX4_ends 82 = .ok (.goto (-31), 3) := by decide +kernel
theorem dX4_ends_85 : decode cX4_ends 85 = .ok (.aload_n 0, 1) := by decide +kernel
theorem dX4_ends_86 : decode cX4_ends 86 = .ok (.dup, 1) := by decide +kernel
theorem dX4_ends_87 : decode cX4_ends 87 = .ok (.getfield 36, 3) := by decide +kernel
theorem dX4_ends_90 : decode cX4_ends 90 = .ok (.iconst 1, 1) := by decide +kernel
theorem dX4_ends_91 : decode cX4_ends 91 = .ok (.iadd, 1) := by decide +kernel
theorem dX4_ends_92 : decode cX4_ends 92 = .ok (.putfield 36, 3) := by decide +kernel
theorem dX4_ends_95 : decode cX4_ends 95 = .ok (.aload_n 0, 1) := by decide +kernel
theorem dX4_ends_96 : decode cX4_ends 96 = .ok (.iload_n 1, 1) := by decide +kernel
theorem dX4_ends_97 : decode cX4_ends 97 = .ok (.invokevirtual 39, 3) := by decide +kernel
theorem dX4_ends_100 : decode cX4_ends 100 = .ok (.ireturn, 1) := by decide +kernel
theorem dX4_isSpan_0 : decode cX4_isSpan 0 = .ok (.iload_n 1, 1) := by decide +kernel
theorem dX4_isSpan_1 : decode cX4_isSpan 1 = .ok (.ifCond .lt 17, 3) := by decide +kernel
theorem dX4_isSpan_4 : decode cX4_isSpan 4 = .ok (.iload_n 1, 1) := by decide +kernel
theorem dX4_isSpan_5 : decode cX4_isSpan 5 = .ok (.aload_n 0, 1) := by decide +kernel
theorem dX4_isSpan_6 : decode cX4_isSpan 6 = .ok (.getfield 7, 3) := by decide +kernel
theorem dX4_isSpan_9 : decode cX4_isSpan 9 = .ok (.iconst 0, 1) := by decide +kernel
theorem dX4_isSpan_10 : decode cX4_isSpan 10 = .ok (.iaload, 1) := by decide +kernel
theorem dX4_isSpan_11 : decode cX4_isSpan 11 = .ok (.if_icmp .ge 7, 3) := by decide +kernel
theorem dX4_isSpan_14 : decode cX4_isSpan 14 = .ok (.iconst 1, 1) := by decide +kernel
theorem dX4_isSpan_15 : decode cX4_isSpan 15 = .ok (.goto 4, 3) := by decide +kernel
theorem dX4_isSpan_18 : decode cX4_isSpan 18 = .ok (.iconst 0, 1) := by decide +kernel
theorem dX4_isSpan_19 : decode cX4_isSpan 19 = .ok (.ireturn, 1) := by decide +kernel
theorem dX4_isChair_0 : decode cX4_isChair 0 = .ok (.iload_n 1, 1) := by decide +kernel
theorem dX4_isChair_1 : decode cX4_isChair 1 = .ok (.ifCond .lt 18, 3) := by decide +kernel
theorem dX4_isChair_4 : decode cX4_isChair 4 = .ok (.iload_n 1, 1) := by decide +kernel
theorem dX4_isChair_5 : decode cX4_isChair 5 = .ok (.aload_n 0, 1) := by decide +kernel
theorem dX4_isChair_6 : decode cX4_isChair 6 = .ok (.getfield 7, 3) := by decide +kernel
theorem dX4_isChair_9 : decode cX4_isChair 9 = .ok (.bipush 7, 2) := by decide +kernel
theorem dX4_isChair_11 : decode cX4_isChair 11 = .ok (.iaload, 1) := by decide +kernel
theorem dX4_isChair_12 : decode cX4_isChair 12 = .ok (.if_icmp .ge 7, 3) := by decide +kernel
theorem dX4_isChair_15 : decode cX4_isChair 15 = .ok (.iconst 1, 1) := by decide +kernel
theorem dX4_isChair_16 : decode cX4_isChair 16 = .ok (.goto 4, 3) := by decide +kernel
theorem dX4_isChair_19 : decode cX4_isChair 19 = .ok (.iconst 0, 1) := by decide +kernel
theorem dX4_isChair_20 : decode cX4_isChair 20 = .ok (.ireturn, 1) := by decide +kernel
theorem dX4_isTeam_0 : decode cX4_isTeam 0 = .ok (.iload_n 1, 1) := by decide +kernel
theorem dX4_isTeam_1 : decode cX4_isTeam 1 = .ok (.ifCond .lt 18, 3) := by decide +kernel
theorem dX4_isTeam_4 : decode cX4_isTeam 4 = .ok (.iload_n 1, 1) := by decide +kernel
theorem dX4_isTeam_5 : decode cX4_isTeam 5 = .ok (.aload_n 0, 1) := by decide +kernel
theorem dX4_isTeam_6 : decode cX4_isTeam 6 = .ok (.getfield 7, 3) := by decide +kernel
theorem dX4_isTeam_9 : decode cX4_isTeam 9 = .ok (.bipush 8, 2) := by decide +kernel
theorem dX4_isTeam_11 : decode cX4_isTeam 11 = .ok (.iaload, 1) := by decide +kernel
theorem dX4_isTeam_12 : decode cX4_isTeam 12 = .ok (.if_icmp .ge 7, 3) := by decide +kernel
theorem dX4_isTeam_15 : decode cX4_isTeam 15 = .ok (.iconst 1, 1) := by decide +kernel
theorem dX4_isTeam_16 : decode cX4_isTeam 16 = .ok (.goto 4, 3) := by decide +kernel
theorem dX4_isTeam_19 : decode cX4_isTeam 19 = .ok (.iconst 0, 1) := by decide +kernel
theorem dX4_isTeam_20 : decode cX4_isTeam 20 = .ok (.ireturn, 1) := by decide +kernel
theorem dX4_of_0 : decode cX4_of 0 = .ok (.aload_n 0, 1) := by decide +kernel
theorem dX4_of_1 : decode cX4_of 1 = .ok (.getfield 7, 3) := by decide +kernel
theorem dX4_of_4 : decode cX4_of 4 = .ok (.bipush 13, 2) := by decide +kernel
theorem dX4_of_6 : decode cX4_of 6 = .ok (.bipush 8, 2) := by decide +kernel
theorem dX4_of_8 : decode cX4_of 8 = .ok (.iload_n 1, 1) := by decide +kernel
theorem dX4_of_9 : decode cX4_of 9 = .ok (.imul, 1) := by decide +kernel
theorem dX4_of_10 : decode cX4_of 10 = .ok (.iadd, 1) := by decide +kernel
theorem dX4_of_11 : decode cX4_of 11 = .ok (.iload_n 2, 1) := by decide +kernel
theorem dX4_of_12 : decode cX4_of 12 = .ok (.iadd, 1) := by decide +kernel
theorem dX4_of_13 : decode cX4_of 13 = .ok (.iaload, 1) := by decide +kernel
theorem dX4_of_14 : decode cX4_of 14 = .ok (.ireturn, 1) := by decide +kernel
theorem dX4_puts_0 : decode cX4_puts 0 = .ok (.aload_n 0, 1) := by decide +kernel
theorem dX4_puts_1 : decode cX4_puts 1 = .ok (.getfield 7, 3) := by decide +kernel
theorem dX4_puts_4 : decode cX4_puts 4 = .ok (.bipush 13, 2) := by decide +kernel
theorem dX4_puts_6 : decode cX4_puts 6 = .ok (.bipush 8, 2) := by decide +kernel
theorem dX4_puts_8 : decode cX4_puts 8 = .ok (.iload_n 1, 1) := by decide +kernel
theorem dX4_puts_9 : decode cX4_puts 9 = .ok (.imul, 1) := by decide +kernel
theorem dX4_puts_10 : decode cX4_puts 10 = .ok (.iadd, 1) := by decide +kernel
theorem dX4_puts_11 : decode cX4_puts 11 = .ok (.iload_n 2, 1) := by decide +kernel
theorem dX4_puts_12 : decode cX4_puts 12 = .ok (.iadd, 1) := by decide +kernel
theorem dX4_puts_13 : decode cX4_puts 13 = .ok (.iload_n 3, 1) := by decide +kernel
theorem dX4_puts_14 : decode cX4_puts 14 = .ok (.iastore, 1) := by decide +kernel
theorem dX4_puts_15 : decode cX4_puts 15 = .ok (.return_, 1) := by decide +kernel
theorem dX4_ofTeam_0 : decode cX4_ofTeam 0 = .ok (.aload_n 0, 1) := by decide +kernel
theorem dX4_ofTeam_1 : decode cX4_ofTeam 1 = .ok (.getfield 7, 3) := by decide +kernel
theorem dX4_ofTeam_4 : decode cX4_ofTeam 4 = .ok (.bipush 125, 2) := by decide +kernel
theorem dX4_ofTeam_6 : decode cX4_ofTeam 6 = .ok (.bipush 8, 2) := by decide +kernel
theorem dX4_ofTeam_8 : decode cX4_ofTeam 8 = .ok (.iload_n 1, 1) := by decide +kernel
theorem dX4_ofTeam_9 : decode cX4_ofTeam 9 = .ok (.imul, 1) := by decide +kernel
theorem dX4_ofTeam_10 : decode cX4_ofTeam 10 = .ok (.iadd, 1) := by decide +kernel
theorem dX4_ofTeam_11 : decode cX4_ofTeam 11 = .ok (.iload_n 2, 1) := by decide +kernel
theorem dX4_ofTeam_12 : decode cX4_ofTeam 12 = .ok (.iadd, 1) := by decide +kernel
theorem dX4_ofTeam_13 : decode cX4_ofTeam 13 = .ok (.iaload, 1) := by decide +kernel
theorem dX4_ofTeam_14 : decode cX4_ofTeam 14 = .ok (.ireturn, 1) := by decide +kernel
theorem dX4_putsTeam_0 : decode cX4_putsTeam 0 = .ok (.aload_n 0, 1) := by decide +kernel
theorem dX4_putsTeam_1 : decode cX4_putsTeam 1 = .ok (.getfield 7, 3) := by decide +kernel
theorem dX4_putsTeam_4 : decode cX4_putsTeam 4 = .ok (.bipush 125, 2) := by decide +kernel
theorem dX4_putsTeam_6 : decode cX4_putsTeam 6 = .ok (.bipush 8, 2) := by decide +kernel
theorem dX4_putsTeam_8 : decode cX4_putsTeam 8 = .ok (.iload_n 1, 1) := by decide +kernel
theorem dX4_putsTeam_9 : decode cX4_putsTeam 9 = .ok (.imul, 1) := by decide +kernel
theorem dX4_putsTeam_10 : decode cX4_putsTeam 10 = .ok (.iadd, 1) := by decide +kernel
theorem dX4_putsTeam_11 : decode cX4_putsTeam 11 = .ok (.iload_n 2, 1) := by decide +kernel
theorem dX4_putsTeam_12 : decode cX4_putsTeam 12 = .ok (.iadd, 1) := by decide +kernel
theorem dX4_putsTeam_13 : decode cX4_putsTeam 13 = .ok (.iload_n 3, 1) := by decide +kernel
theorem dX4_putsTeam_14 : decode cX4_putsTeam 14 = .ok (.iastore, 1) := by decide +kernel
theorem dX4_putsTeam_15 : decode cX4_putsTeam 15 = .ok (.return_, 1) := by decide +kernel
theorem dX4_wayOf_0 : decode cX4_wayOf 0 = .ok (.iconst 0, 1) := by decide +kernel
theorem dX4_wayOf_1 : decode cX4_wayOf 1 = .ok (.istore_n 3, 1) := by decide +kernel
theorem dX4_wayOf_2 : decode cX4_wayOf 2 = .ok (.iload_n 1, 1) := by decide +kernel
theorem dX4_wayOf_3 : decode cX4_wayOf 3 = .ok (.iload_n 2, 1) := by decide +kernel
theorem dX4_wayOf_4 : decode cX4_wayOf 4 = .ok (.if_icmp .le 7, 3) := by decide +kernel
theorem dX4_wayOf_7 : decode cX4_wayOf 7 = .ok (.iload_n 1, 1) := by decide +kernel
theorem dX4_wayOf_8 : decode cX4_wayOf 8 = .ok (.goto 4, 3) := by decide +kernel
theorem dX4_wayOf_11 : decode cX4_wayOf 11 = .ok (.iload_n 2, 1) := by decide +kernel
theorem dX4_wayOf_12 : decode cX4_wayOf 12 = .ok (.istore 4, 2) := by decide +kernel
theorem dX4_wayOf_14 : decode cX4_wayOf 14 = .ok (.iload_n 1, 1) := by decide +kernel
theorem dX4_wayOf_15 : decode cX4_wayOf 15 = .ok (.iload_n 2, 1) := by decide +kernel
theorem dX4_wayOf_16 : decode cX4_wayOf 16 = .ok (.if_icmp .ge 7, 3) := by decide +kernel
theorem dX4_wayOf_19 : decode cX4_wayOf 19 = .ok (.iload_n 1, 1) := by decide +kernel
theorem dX4_wayOf_20 : decode cX4_wayOf 20 = .ok (.goto 4, 3) := by decide +kernel
theorem dX4_wayOf_23 : decode cX4_wayOf 23 = .ok (.iload_n 2, 1) := by decide +kernel
theorem dX4_wayOf_24 : decode cX4_wayOf 24 = .ok (.istore 5, 2) := by decide +kernel
theorem dX4_wayOf_26 : decode cX4_wayOf 26 = .ok (.iload 5, 2) := by decide +kernel
theorem dX4_wayOf_28 : decode cX4_wayOf 28 = .ok (.iload 4, 2) := by decide +kernel
theorem dX4_wayOf_30 : decode cX4_wayOf 30 = .ok (.if_icmp .ge 21, 3) := by decide +kernel
theorem dX4_wayOf_33 : decode cX4_wayOf 33 = .ok (.iload_n 3, 1) := by decide +kernel
theorem dX4_wayOf_34 : decode cX4_wayOf 34 = .ok (.aload_n 0, 1) := by decide +kernel
theorem dX4_wayOf_35 : decode cX4_wayOf 35 = .ok (.getfield 7, 3) := by decide +kernel
theorem dX4_wayOf_38 : decode cX4_wayOf 38 = .ok (.iconst 1, 1) := by decide +kernel
theorem dX4_wayOf_39 : decode cX4_wayOf 39 = .ok (.iload 5, 2) := by decide +kernel
theorem dX4_wayOf_41 : decode cX4_wayOf 41 = .ok (.iadd, 1) := by decide +kernel
theorem dX4_wayOf_42 : decode cX4_wayOf 42 = .ok (.iaload, 1) := by decide +kernel
theorem dX4_wayOf_43 : decode cX4_wayOf 43 = .ok (.iadd, 1) := by decide +kernel
theorem dX4_wayOf_44 : decode cX4_wayOf 44 = .ok (.istore_n 3, 1) := by decide +kernel
theorem dX4_wayOf_45 : decode cX4_wayOf 45 = .ok (.iinc 5 1, 3) := by decide +kernel
theorem dX4_wayOf_48 : decode cX4_wayOf 48 = .ok (.goto (-22), 3) := by decide +kernel
theorem dX4_wayOf_51 : decode cX4_wayOf 51 = .ok (.iload_n 3, 1) := by decide +kernel
theorem dX4_wayOf_52 : decode cX4_wayOf 52 = .ok (.ireturn, 1) := by decide +kernel
theorem dX4_rankOf_0 : decode cX4_rankOf 0 = .ok (.aload_n 0, 1) := by decide +kernel
theorem dX4_rankOf_1 : decode cX4_rankOf 1 = .ok (.iload_n 1, 1) := by decide +kernel
theorem dX4_rankOf_2 : decode cX4_rankOf 2 = .ok (.iconst 2, 1) := by decide +kernel
theorem dX4_rankOf_3 : decode cX4_rankOf 3 = .ok (.invokevirtual 43, 3) := by decide +kernel
theorem dX4_rankOf_6 : decode cX4_rankOf 6 = .ok (.iconst 3, 1) := by decide +kernel
theorem dX4_rankOf_7 : decode cX4_rankOf 7 = .ok (.aload_n 0, 1) := by decide +kernel
theorem dX4_rankOf_8 : decode cX4_rankOf 8 = .ok (.iload_n 1, 1) := by decide +kernel
theorem dX4_rankOf_9 : decode cX4_rankOf 9 = .ok (.iconst 3, 1) := by decide +kernel
theorem dX4_rankOf_10 : decode cX4_rankOf 10 = .ok (.invokevirtual 43, 3) := by decide +kernel
theorem dX4_rankOf_13 : decode cX4_rankOf 13 = .ok (.imul, 1) := by decide +kernel
theorem dX4_rankOf_14 : decode cX4_rankOf 14 = .ok (.iadd, 1) := by decide +kernel
theorem dX4_rankOf_15 : decode cX4_rankOf 15 = .ok (.ireturn, 1) := by decide +kernel
theorem dX4_workOf_0 : decode cX4_workOf 0 = .ok (.iconst 2, 1) := by decide +kernel
theorem dX4_workOf_1 : decode cX4_workOf 1 = .ok (.aload_n 0, 1) := by decide +kernel
theorem dX4_workOf_2 : decode cX4_workOf 2 = .ok (.iload_n 1, 1) := by decide +kernel
theorem dX4_workOf_3 : decode cX4_workOf 3 = .ok (.iconst 1, 1) := by decide +kernel
theorem dX4_workOf_4 : decode cX4_workOf 4 = .ok (.invokevirtual 43, 3) := by decide +kernel
theorem dX4_workOf_7 : decode cX4_workOf 7 = .ok (.iconst 1, 1) := by decide +kernel
theorem dX4_workOf_8 : decode cX4_workOf 8 = .ok (.aload_n 0, 1) := by decide +kernel
theorem dX4_workOf_9 : decode cX4_workOf 9 = .ok (.iload_n 2, 1) := by decide +kernel
theorem dX4_workOf_10 : decode cX4_workOf 10 = .ok (.iconst 1, 1) := by decide +kernel
theorem dX4_workOf_11 : decode cX4_workOf 11 = .ok (.invokevirtual 47, 3) := by decide +kernel
theorem dX4_workOf_14 : decode cX4_workOf 14 = .ok (.iconst 5, 1) := by decide +kernel
theorem dX4_workOf_15 : decode cX4_workOf 15 = .ok (.idiv, 1) := by decide +kernel
theorem dX4_workOf_16 : decode cX4_workOf 16 = .ok (.iadd, 1) := by decide +kernel
theorem dX4_workOf_17 : decode cX4_workOf 17 = .ok (.imul, 1) := by decide +kernel
theorem dX4_workOf_18 : decode cX4_workOf 18 = .ok (.iadd, 1) := by decide +kernel
theorem dX4_workOf_19 : decode cX4_workOf 19 = .ok (.istore_n 3, 1) := by decide +kernel
theorem dX4_workOf_20 : decode cX4_workOf 20 = .ok (.iconst 0, 1) := by decide +kernel
theorem dX4_workOf_21 : decode cX4_workOf 21 = .ok (.istore 4, 2) := by decide +kernel
theorem dX4_workOf_23 : decode cX4_workOf 23 = .ok (.iconst 0, 1) := by decide +kernel
theorem dX4_workOf_24 : decode cX4_workOf 24 = .ok (.istore 5, 2) := by decide +kernel
theorem dX4_workOf_26 : decode cX4_workOf 26 = .ok (.iload 5, 2) := by decide +kernel
theorem dX4_workOf_28 : decode cX4_workOf 28 = .ok (.aload_n 0, 1) := by decide +kernel
theorem dX4_workOf_29 : decode cX4_workOf 29 = .ok (.getfield 7, 3) := by decide +kernel
theorem dX4_workOf_32 : decode cX4_workOf 32 = .ok (.bipush 8, 2) := by decide +kernel
theorem dX4_workOf_34 : decode cX4_workOf 34 = .ok (.iaload, 1) := by decide +kernel
theorem dX4_workOf_35 : decode cX4_workOf 35 = .ok (.if_icmp .ge 54, 3) := by decide +kernel
theorem dX4_workOf_38 : decode cX4_workOf 38 = .ok (.iload 4, 2) := by decide +kernel
theorem dX4_workOf_40 : decode cX4_workOf 40 = .ok (.ifCond .ne 36, 3) := by decide +kernel
theorem dX4_workOf_43 : decode cX4_workOf 43 = .ok (.iload 5, 2) := by decide +kernel
theorem dX4_workOf_45 : decode cX4_workOf 45 = .ok (.iload_n 2, 1) := by decide +kernel
theorem dX4_workOf_46 : decode cX4_workOf 46 = .ok (.if_icmp .eq 34, 3) := by decide +kernel
theorem dX4_workOf_49 : decode cX4_workOf 49 = .ok (.aload_n 0, 1) := by decide +kernel
theorem dX4_workOf_50 : decode cX4_workOf 50 = .ok (.iload 5, 2) := by decide +kernel
theorem dX4_workOf_52 : decode cX4_workOf 52 = .ok (.iconst 2, 1) := by decide +kernel
theorem dX4_workOf_53 : decode cX4_workOf 53 = .ok (.invokevirtual 47, 3) := by decide +kernel
theorem dX4_workOf_56 : decode cX4_workOf 56 = .ok (.iconst 2, 1) := by decide +kernel
theorem dX4_workOf_57 : decode cX4_workOf 57 = .ok (.if_icmp .ne 23, 3) := by decide +kernel
theorem dX4_workOf_60 : decode cX4_workOf 60 = .ok (.aload_n 0, 1) := by decide +kernel
theorem dX4_workOf_61 : decode cX4_workOf 61 = .ok (.iload 5, 2) := by decide +kernel
theorem dX4_workOf_63 : decode cX4_workOf 63 = .ok (.iconst 0, 1) := by decide +kernel
theorem dX4_workOf_64 : decode cX4_workOf 64 = .ok (.invokevirtual 47, 3) := by decide +kernel
theorem dX4_workOf_67 : decode cX4_workOf 67 = .ok (.aload_n 0, 1) := by decide +kernel
theorem dX4_workOf_68 : decode cX4_workOf 68 = .ok (.iload_n 1, 1) := by decide +kernel
theorem dX4_workOf_69 : decode cX4_workOf 69 = .ok (.iconst 0, 1) := by decide +kernel
theorem dX4_workOf_70 : decode cX4_workOf 70 = .ok (.invokevirtual 43, 3) := by decide +kernel
theorem dX4_workOf_73 : decode cX4_workOf 73 = .ok (.if_icmp .ne 7, 3) := by decide +kernel
theorem dX4_workOf_76 : decode cX4_workOf 76 = .ok (.iconst 1, 1) := by decide +kernel
theorem dX4_workOf_77 : decode cX4_workOf 77 = .ok (.goto 4, 3) := by decide +kernel
theorem dX4_workOf_80 : decode cX4_workOf 80 = .ok (.iconst 0, 1) := by decide +kernel
theorem dX4_workOf_81 : decode cX4_workOf 81 = .ok (.istore 4, 2) := by decide +kernel
theorem dX4_workOf_83 : decode cX4_workOf 83 = .ok (.iinc 5 1, 3) := by decide +kernel
theorem dX4_workOf_86 : decode cX4_workOf 86 = .ok (.goto (-60), 3) := by decide +kernel
theorem dX4_workOf_89 : decode cX4_workOf 89 = .ok (.iload 4, 2) := by decide +kernel
theorem dX4_workOf_91 : decode cX4_workOf 91 = .ok (.ifCond .eq 14, 3) := by decide +kernel
theorem dX4_workOf_94 : decode cX4_workOf 94 = .ok (.iload_n 3, 1) := by decide +kernel
theorem dX4_workOf_95 : decode cX4_workOf 95 = .ok (.iconst 1, 1) := by decide +kernel
theorem dX4_workOf_96 : decode cX4_workOf 96 = .ok (.if_icmp .le 9, 3) := by decide +kernel
theorem dX4_workOf_99 : decode cX4_workOf 99 = .ok (.iload_n 3, 1) := by decide +kernel
theorem dX4_workOf_100 : decode cX4_workOf 100 = .ok (.iconst 1, 1) := by decide +kernel
theorem dX4_workOf_101 : decode cX4_workOf 101 = .ok (.isub, 1) := by decide +kernel
theorem dX4_workOf_102 : decode cX4_workOf 102 = .ok (.goto 4, 3) := by decide +kernel
theorem dX4_workOf_105 : decode cX4_workOf 105 = .ok (.iload_n 3, 1) := by decide +kernel
theorem dX4_workOf_106 : decode cX4_workOf 106 = .ok (.ireturn, 1) := by decide +kernel
theorem dX4_choiceAt_0 : decode cX4_choiceAt 0 = .ok (.iconst (-1), 1) := by decide +kernel
theorem dX4_choiceAt_1 : decode cX4_choiceAt 1 = .ok (.istore_n 2, 1) := by decide +kernel
theorem dX4_choiceAt_2 : decode cX4_choiceAt 2 = .ok (.iconst 0, 1) := by decide +kernel
theorem dX4_choiceAt_3 : decode cX4_choiceAt 3 = .ok (.istore_n 3, 1) := by decide +kernel
theorem dX4_choiceAt_4 : decode cX4_choiceAt 4 = .ok (.iload_n 3, 1) := by decide +kernel
theorem dX4_choiceAt_5 : decode cX4_choiceAt 5 = .ok (.aload_n 0, 1) := by decide +kernel
theorem dX4_choiceAt_6 : decode cX4_choiceAt 6 = .ok (.getfield 7, 3) := by decide +kernel
theorem dX4_choiceAt_9 : decode cX4_choiceAt 9 = .ok (.bipush 7, 2) := by decide +kernel
theorem dX4_choiceAt_11 : decode cX4_choiceAt 11 = .ok (.iaload, 1) := by decide +kernel
theorem dX4_choiceAt_12 : decode cX4_choiceAt 12 = .ok (.if_icmp .ge 109, 3) := by decide +kernel
theorem dX4_choiceAt_15 : decode cX4_choiceAt 15 = .ok (.aload_n 0, 1) := by decide +kernel
theorem dX4_choiceAt_16 : decode cX4_choiceAt 16 = .ok (.iload_n 3, 1) := by decide +kernel
theorem dX4_choiceAt_17 : decode cX4_choiceAt 17 = .ok (.iconst 4, 1) := by decide +kernel
theorem dX4_choiceAt_18 : decode cX4_choiceAt 18 = .ok (.invokevirtual 43, 3) := by decide +kernel
theorem dX4_choiceAt_21 : decode cX4_choiceAt 21 = .ok (.ifCond .ne 94, 3) := by decide +kernel
theorem dX4_choiceAt_24 : decode cX4_choiceAt 24 = .ok (.iload_n 2, 1) := by decide +kernel
theorem dX4_choiceAt_25 : decode cX4_choiceAt 25 = .ok (.iconst (-1), 1) := by decide +kernel
theorem dX4_choiceAt_26 : decode cX4_choiceAt 26 = .ok (.if_icmp .eq 16, 3) := by decide +kernel
theorem dX4_choiceAt_29 : decode cX4_choiceAt 29 = .ok (.aload_n 0, 1) := by decide +kernel
theorem dX4_choiceAt_30 : decode cX4_choiceAt 30 = .ok (.iload_n 3, 1) := by decide +kernel
theorem dX4_choiceAt_31 : decode cX4_choiceAt 31 = .ok (.invokevirtual 50, 3) := by decide +kernel
theorem dX4_choiceAt_34 : decode cX4_choiceAt 34 = .ok (.aload_n 0, 1) := by decide +kernel
theorem dX4_choiceAt_35 : decode cX4_choiceAt 35 = .ok (.iload_n 2, 1) := by decide +kernel
theorem dX4_choiceAt_36 : decode cX4_choiceAt 36 = .ok (.invokevirtual 50, 3) := by decide +kernel
theorem dX4_choiceAt_39 : decode cX4_choiceAt 39 = .ok (.if_icmp .le 7, 3) := by decide +kernel
theorem dX4_choiceAt_42 : decode cX4_choiceAt 42 = .ok (.iconst 1, 1) := by decide +kernel
theorem dX4_choiceAt_43 : decode cX4_choiceAt 43 = .ok (.goto 4, 3) := by decide +kernel
theorem dX4_choiceAt_46 : decode cX4_choiceAt 46 = .ok (.iconst 0, 1) := by decide +kernel
theorem dX4_choiceAt_47 : decode cX4_choiceAt 47 = .ok (.istore 4, 2) := by decide +kernel
theorem dX4_choiceAt_49 : decode cX4_choiceAt 49 = .ok (.iload_n 2, 1) := by decide +kernel
theorem dX4_choiceAt_50 : decode cX4_choiceAt 50 = .ok (.iconst (-1), 1) := by decide +kernel
theorem dX4_choiceAt_51 : decode cX4_choiceAt 51 = .ok (.if_icmp .eq 20, 3) := by decide +kernel
theorem dX4_choiceAt_54 : decode cX4_choiceAt 54 = .ok (.aload_n 0, 1) := by decide +kernel
theorem dX4_choiceAt_55 : decode cX4_choiceAt 55 = .ok (.iload_n 3, 1) := by decide +kernel
theorem dX4_choiceAt_56 : decode cX4_choiceAt 56 = .ok (.invokevirtual 50, 3) := by decide +kernel
theorem dX4_choiceAt_59 : decode cX4_choiceAt 59 = .ok (.aload_n 0, 1) := by decide +kernel
theorem dX4_choiceAt_60 : decode cX4_choiceAt 60 = .ok (.iload_n 2, 1) := by decide +kernel
theorem dX4_choiceAt_61 : decode cX4_choiceAt 61 = .ok (.invokevirtual 50, 3) := by decide +kernel
theorem dX4_choiceAt_64 : decode cX4_choiceAt 64 = .ok (.if_icmp .ne 7, 3) := by decide +kernel
theorem dX4_choiceAt_67 : decode cX4_choiceAt 67 = .ok (.iconst 1, 1) := by decide +kernel
theorem dX4_choiceAt_68 : decode cX4_choiceAt 68 = .ok (.goto 4, 3) := by decide +kernel
theorem dX4_choiceAt_71 : decode cX4_choiceAt 71 = .ok (.iconst 0, 1) := by decide +kernel
theorem dX4_choiceAt_72 : decode cX4_choiceAt 72 = .ok (.istore 5, 2) := by decide +kernel
theorem dX4_choiceAt_74 : decode cX4_choiceAt 74 = .ok (.iload 4, 2) := by decide +kernel
theorem dX4_choiceAt_76 : decode cX4_choiceAt 76 = .ok (.ifCond .ne 33, 3) := by decide +kernel
theorem dX4_choiceAt_79 : decode cX4_choiceAt 79 = .ok (.iload 5, 2) := by decide +kernel
theorem dX4_choiceAt_81 : decode cX4_choiceAt 81 = .ok (.ifCond .eq 32, 3) := by decide +kernel
theorem dX4_choiceAt_84 : decode cX4_choiceAt 84 = .ok (.aload_n 0, 1) := by decide +kernel
theorem dX4_choiceAt_85 : decode cX4_choiceAt 85 = .ok (.iload_n 1, 1) := by decide +kernel
theorem dX4_choiceAt_86 : decode cX4_choiceAt 86 = .ok (.aload_n 0, 1) := by decide +kernel
theorem dX4_choiceAt_87 : decode cX4_choiceAt 87 = .ok (.iload_n 3, 1) := by decide +kernel
theorem dX4_choiceAt_88 : decode cX4_choiceAt 88 = .ok (.iconst 0, 1) := by decide +kernel
theorem dX4_choiceAt_89 : decode cX4_choiceAt 89 = .ok (.invokevirtual 43, 3) := by decide +kernel
theorem dX4_choiceAt_92 : decode cX4_choiceAt 92 = .ok (.invokevirtual 53, 3) := by decide +kernel
theorem dX4_choiceAt_95 : decode cX4_choiceAt 95 = .ok (.aload_n 0, 1) := by decide +kernel
theorem dX4_choiceAt_96 : decode cX4_choiceAt 96 = .ok (.iload_n 1, 1) := by decide +kernel
theorem dX4_choiceAt_97 : decode cX4_choiceAt 97 = .ok (.aload_n 0, 1) := by decide +kernel
theorem dX4_choiceAt_98 : decode cX4_choiceAt 98 = .ok (.iload_n 2, 1) := by decide +kernel
theorem dX4_choiceAt_99 : decode cX4_choiceAt 99 = .ok (.iconst 0, 1) := by decide +kernel
theorem dX4_choiceAt_100 : decode cX4_choiceAt 100 = .ok (.invokevirtual 43, 3) := by decide +kernel
theorem dX4_choiceAt_103 : decode cX4_choiceAt 103 = .ok (.invokevirtual 53, 3) := by decide +kernel
theorem dX4_choiceAt_106 : decode cX4_choiceAt 106 = .ok (.if_icmp .ge 7, 3) := by decide +kernel
theorem dX4_choiceAt_109 : decode cX4_choiceAt 109 = .ok (.iload_n 3, 1) := by decide +kernel
theorem dX4_choiceAt_110 : decode cX4_choiceAt 110 = .ok (.goto 4, 3) := by decide +kernel
theorem dX4_choiceAt_113 : decode cX4_choiceAt 113 = .ok (.iload_n 2, 1) := by decide +kernel
theorem dX4_choiceAt_114 : decode cX4_choiceAt 114 = .ok (.istore_n 2, 1) := by decide +kernel
theorem dX4_choiceAt_115 : decode cX4_choiceAt 115 = .ok (.iinc 3 1, 3) := by decide +kernel
theorem dX4_choiceAt_118 : decode cX4_choiceAt 118 = .ok (.goto (-114), 3) := by decide +kernel
theorem dX4_choiceAt_121 : decode cX4_choiceAt 121 = .ok (.iload_n 2, 1) := by decide +kernel
theorem dX4_choiceAt_122 : decode cX4_choiceAt 122 = .ok (.ireturn, 1) := by decide +kernel
theorem dX4_begins_0 : decode cX4_begins 0 = .ok (.aload_n 0, 1) := by decide +kernel
theorem dX4_begins_1 : decode cX4_begins 1 = .ok (.iload_n 1, 1) := by decide +kernel
theorem dX4_begins_2 : decode cX4_begins 2 = .ok (.iconst 2, 1) := by decide +kernel
theorem dX4_begins_3 : decode cX4_begins 3 = .ok (.iload_n 2, 1) := by decide +kernel
theorem dX4_begins_4 : decode cX4_begins 4 = .ok (.invokevirtual 56, 3) := by decide +kernel
theorem dX4_begins_7 : decode cX4_begins 7 = .ok (.aload_n 0, 1) := by decide +kernel
theorem dX4_begins_8 : decode cX4_begins 8 = .ok (.iload_n 1, 1) := by decide +kernel
theorem dX4_begins_9 : decode cX4_begins 9 = .ok (.iconst 3, 1) := by decide +kernel
theorem dX4_begins_10 : decode cX4_begins 10 = .ok (.iload_n 3, 1) := by decide +kernel
theorem dX4_begins_11 : decode cX4_begins 11 = .ok (.invokevirtual 56, 3) := by decide +kernel
theorem dX4_begins_14 : decode cX4_begins 14 = .ok (.return_, 1) := by decide +kernel
theorem dX4_empties_0 : decode cX4_empties 0 = .ok (.aload_n 0, 1) := by decide +kernel
theorem dX4_empties_1 : decode cX4_empties 1 = .ok (.iload_n 1, 1) := by decide +kernel
theorem dX4_empties_2 : decode cX4_empties 2 = .ok (.iconst 4, 1) := by decide +kernel
theorem dX4_empties_3 : decode cX4_empties 3 = .ok (.invokevirtual 47, 3) := by decide +kernel
theorem dX4_empties_6 : decode cX4_empties 6 = .ok (.istore_n 2, 1) := by decide +kernel
theorem dX4_empties_7 : decode cX4_empties 7 = .ok (.aload_n 0, 1) := by decide +kernel
theorem dX4_empties_8 : decode cX4_empties 8 = .ok (.iload_n 2, 1) := by decide +kernel
theorem dX4_empties_9 : decode cX4_empties 9 = .ok (.iconst 1, 1) := by decide +kernel
theorem dX4_empties_10 : decode cX4_empties 10 = .ok (.invokevirtual 43, 3) := by decide +kernel
theorem dX4_empties_13 : decode cX4_empties 13 = .ok (.istore_n 3, 1) := by decide +kernel
theorem dX4_empties_14 : decode cX4_empties 14 = .ok (.aload_n 0, 1) := by decide +kernel
theorem dX4_empties_15 : decode cX4_empties 15 = .ok (.iload_n 1, 1) := by decide +kernel
theorem dX4_empties_16 : decode cX4_empties 16 = .ok (.iconst 1, 1) := by decide +kernel
theorem dX4_empties_17 : decode cX4_empties 17 = .ok (.invokevirtual 47, 3) := by decide +kernel
theorem dX4_empties_20 : decode cX4_empties 20 = .ok (.iload_n 3, 1) := by decide +kernel
theorem dX4_empties_21 : decode cX4_empties 21 = .ok (.iadd, 1) := by decide +kernel
theorem dX4_empties_22 : decode cX4_empties 22 = .ok (.istore 4, 2) := by decide +kernel
theorem dX4_empties_24 : decode cX4_empties 24 = .ok (.aload_n 0, 1) := by decide +kernel
theorem dX4_empties_25 : decode cX4_empties 25 = .ok (.getfield 7, 3) := by decide +kernel
theorem dX4_empties_28 : decode cX4_empties 28 = .ok (.bipush 9, 2) := by decide +kernel
theorem dX4_empties_30 : decode cX4_empties 30 = .ok (.iaload, 1) := by decide +kernel
theorem dX4_empties_31 : decode cX4_empties 31 = .ok (.iconst 1, 1) := by decide +kernel
theorem dX4_empties_32 : decode cX4_empties 32 = .ok (.iadd, 1) := by decide +kernel
theorem dX4_empties_33 : decode cX4_empties 33 = .ok (.istore 5, 2) := by decide +kernel
theorem dX4_empties_35 : decode cX4_empties 35 = .ok (.aload_n 0, 1) := by decide +kernel
theorem dX4_empties_36 : decode cX4_empties 36 = .ok (.iload_n 2, 1) := by decide +kernel
theorem dX4_empties_37 : decode cX4_empties 37 = .ok (.iconst 4, 1) := by decide +kernel
theorem dX4_empties_38 : decode cX4_empties 38 = .ok (.iconst 2, 1) := by decide +kernel
theorem dX4_empties_39 : decode cX4_empties 39 = .ok (.invokevirtual 60, 3) := by decide +kernel
theorem dX4_empties_42 : decode cX4_empties 42 = .ok (.aload_n 0, 1) := by decide +kernel
theorem dX4_empties_43 : decode cX4_empties 43 = .ok (.iload_n 2, 1) := by decide +kernel
theorem dX4_empties_44 : decode cX4_empties 44 = .ok (.bipush 6, 2) := by decide +kernel
theorem dX4_empties_46 : decode cX4_empties 46 = .ok (.iload 5, 2) := by decide +kernel
theorem dX4_empties_48 : decode cX4_empties 48 = .ok (.invokevirtual 60, 3) := by decide +kernel
theorem dX4_empties_51 : decode cX4_empties 51 = .ok (.aload_n 0, 1) := by decide +kernel
theorem dX4_empties_52 : decode cX4_empties 52 = .ok (.iload_n 2, 1) := by decide +kernel
theorem dX4_empties_53 : decode cX4_empties 53 = .ok (.bipush 7, 2) := by decide +kernel
theorem dX4_empties_55 : decode cX4_empties 55 = .ok (.invokevirtual 43, 3) := by decide +kernel
theorem dX4_empties_58 : decode cX4_empties 58 = .ok (.iconst (-1), 1) := by decide +kernel
theorem dX4_empties_59 : decode cX4_empties 59 = .ok (.if_icmp .eq 31, 3) := by decide +kernel
theorem dX4_empties_62 : decode cX4_empties 62 = .ok (.aload_n 0, 1) := by decide +kernel
theorem dX4_empties_63 : decode cX4_empties 63 = .ok (.getfield 7, 3) := by decide +kernel
theorem dX4_empties_66 : decode cX4_empties 66 = .ok (.iload 5, 2) := by decide +kernel
theorem dX4_empties_68 : decode cX4_empties 68 = .ok (.aload_n 0, 1) := by decide +kernel
theorem dX4_empties_69 : decode cX4_empties 69 = .ok (.iload_n 2, 1) := by decide +kernel
theorem dX4_empties_70 : decode cX4_empties 70 = .ok (.bipush 7, 2) := by decide +kernel
theorem dX4_empties_72 : decode cX4_empties 72 = .ok (.invokevirtual 43, 3) := by decide +kernel
theorem dX4_empties_75 : decode cX4_empties 75 = .ok (.if_icmp .le 8, 3) := by decide +kernel
theorem dX4_empties_78 : decode cX4_empties 78 = .ok (.bipush 11, 2) := by decide +kernel
theorem dX4_empties_80 : decode cX4_empties 80 = .ok (.goto 5, 3) := by decide +kernel
theorem dX4_empties_83 : decode cX4_empties 83 = .ok (.bipush 10, 2) := by decide +kernel
theorem dX4_empties_85 : decode cX4_empties 85 = .ok (.dup2, 1) := by decide +kernel
theorem dX4_empties_86 : decode cX4_empties 86 = .ok (.iaload, 1) := by decide +kernel
theorem dX4_empties_87 : decode cX4_empties 87 = .ok (.iconst 1, 1) := by decide +kernel
theorem dX4_empties_88 : decode cX4_empties 88 = .ok (.iadd, 1) := by decide +kernel
theorem dX4_empties_89 : decode cX4_empties 89 = .ok (.iastore, 1) := by decide +kernel
theorem dX4_empties_90 : decode cX4_empties 90 = .ok (.aload_n 0, 1) := by decide +kernel
theorem dX4_empties_91 : decode cX4_empties 91 = .ok (.getfield 7, 3) := by decide +kernel
theorem dX4_empties_94 : decode cX4_empties 94 = .ok (.sipush 157, 3) := by decide +kernel
theorem dX4_empties_97 : decode cX4_empties 97 = .ok (.aload_n 0, 1) := by decide +kernel
theorem dX4_empties_98 : decode cX4_empties 98 = .ok (.getfield 7, 3) := by decide +kernel
theorem dX4_empties_101 : decode cX4_empties 101 = .ok (.bipush 12, 2) := by decide +kernel
theorem dX4_empties_103 : decode cX4_empties 103 = .ok (.iaload, 1) := by decide +kernel
theorem dX4_empties_104 : decode cX4_empties 104 = .ok (.iadd, 1) := by decide +kernel
theorem dX4_empties_105 : decode cX4_empties 105 = .ok (.iload_n 2, 1) := by decide +kernel
theorem dX4_empties_106 : decode cX4_empties 106 = .ok (.iastore, 1) := by decide +kernel
theorem dX4_empties_107 : decode cX4_empties 107 = .ok (.aload_n 0, 1) := by decide +kernel
theorem dX4_empties_108 : decode cX4_empties 108 = .ok (.getfield 7, 3) := by decide +kernel
theorem dX4_empties_111 : decode cX4_empties 111 = .ok (.bipush 12, 2) := by decide +kernel
theorem dX4_empties_113 : decode cX4_empties 113 = .ok (.dup2, 1) := by decide +kernel
theorem dX4_empties_114 : decode cX4_empties 114 = .ok (.iaload, 1) := by decide +kernel
theorem dX4_empties_115 : decode cX4_empties 115 = .ok (.iconst 1, 1) := by decide +kernel
theorem dX4_empties_116 : decode cX4_empties 116 = .ok (.iadd, 1) := by decide +kernel
theorem dX4_empties_117 : decode cX4_empties 117 = .ok (.iastore, 1) := by decide +kernel
theorem dX4_empties_118 : decode cX4_empties 118 = .ok (.aload_n 0, 1) := by decide +kernel
theorem dX4_empties_119 : decode cX4_empties 119 = .ok (.iload_n 1, 1) := by decide +kernel
theorem dX4_empties_120 : decode cX4_empties 120 = .ok (.iconst 1, 1) := by decide +kernel
theorem dX4_empties_121 : decode cX4_empties 121 = .ok (.iload 4, 2) := by decide +kernel
theorem dX4_empties_123 : decode cX4_empties 123 = .ok (.bipush 30, 2) := by decide +kernel
theorem dX4_empties_125 : decode cX4_empties 125 = .ok (.if_icmp .le 8, 3) := by decide +kernel
theorem dX4_empties_128 : decode cX4_empties 128 = .ok (.bipush 30, 2) := by decide +kernel
theorem dX4_empties_130 : decode cX4_empties 130 = .ok (.goto 5, 3) := by decide +kernel
theorem dX4_empties_133 : decode cX4_empties 133 = .ok (.iload 4, 2) := by decide +kernel
theorem dX4_empties_135 : decode cX4_empties 135 = .ok (.invokevirtual 56, 3) := by decide +kernel
theorem dX4_empties_138 : decode cX4_empties 138 = .ok (.aload_n 0, 1) := by decide +kernel
theorem dX4_empties_139 : decode cX4_empties 139 = .ok (.iload_n 1, 1) := by decide +kernel
theorem dX4_empties_140 : decode cX4_empties 140 = .ok (.iconst 4, 1) := by decide +kernel
theorem dX4_empties_141 : decode cX4_empties 141 = .ok (.iconst (-1), 1) := by decide +kernel
theorem dX4_empties_142 : decode cX4_empties 142 = .ok (.invokevirtual 56, 3) := by decide +kernel
theorem dX4_empties_145 : decode cX4_empties 145 = .ok (.aload_n 0, 1) := by decide +kernel
theorem dX4_empties_146 : decode cX4_empties 146 = .ok (.iload_n 1, 1) := by decide +kernel
theorem dX4_empties_147 : decode cX4_empties 147 = .ok (.iconst 5, 1) := by decide +kernel
theorem dX4_empties_148 : decode cX4_empties 148 = .ok (.aload_n 0, 1) := by decide +kernel
theorem dX4_empties_149 : decode cX4_empties 149 = .ok (.iload_n 1, 1) := by decide +kernel
theorem dX4_empties_150 : decode cX4_empties 150 = .ok (.iconst 5, 1) := by decide +kernel
theorem dX4_empties_151 : decode cX4_empties 151 = .ok (.invokevirtual 47, 3) := by decide +kernel
theorem dX4_empties_154 : decode cX4_empties 154 = .ok (.iconst 1, 1) := by decide +kernel
theorem dX4_empties_155 : decode cX4_empties 155 = .ok (.iadd, 1) := by decide +kernel
theorem dX4_empties_156 : decode cX4_empties 156 = .ok (.invokevirtual 56, 3) := by decide +kernel
theorem dX4_empties_159 : decode cX4_empties 159 = .ok (.aload_n 0, 1) := by decide +kernel
theorem dX4_empties_160 : decode cX4_empties 160 = .ok (.iload_n 1, 1) := by decide +kernel
theorem dX4_empties_161 : decode cX4_empties 161 = .ok (.bipush 6, 2) := by decide +kernel
theorem dX4_empties_163 : decode cX4_empties 163 = .ok (.aload_n 0, 1) := by decide +kernel
theorem dX4_empties_164 : decode cX4_empties 164 = .ok (.iload_n 1, 1) := by decide +kernel
theorem dX4_empties_165 : decode cX4_empties 165 = .ok (.bipush 6, 2) := by decide +kernel
theorem dX4_empties_167 : decode cX4_empties 167 = .ok (.invokevirtual 47, 3) := by decide +kernel
theorem dX4_empties_170 : decode cX4_empties 170 = .ok (.iload_n 3, 1) := by decide +kernel
theorem dX4_empties_171 : decode cX4_empties 171 = .ok (.iadd, 1) := by decide +kernel
theorem dX4_empties_172 : decode cX4_empties 172 = .ok (.invokevirtual 56, 3) := by decide +kernel
theorem dX4_empties_175 : decode cX4_empties 175 = .ok (.aload_n 0, 1) := by decide +kernel
theorem dX4_empties_176 : decode cX4_empties 176 = .ok (.iload_n 1, 1) := by decide +kernel
theorem dX4_empties_177 : decode cX4_empties 177 = .ok (.iload 4, 2) := by decide +kernel
theorem dX4_empties_179 : decode cX4_empties 179 = .ok (.bipush 10, 2) := by decide +kernel
theorem dX4_empties_181 : decode cX4_empties 181 = .ok (.if_icmp .lt 7, 3) := by decide +kernel
theorem dX4_empties_184 : decode cX4_empties 184 = .ok (.iconst 3, 1) := by decide +kernel
theorem dX4_empties_185 : decode cX4_empties 185 = .ok (.goto 4, 3) := by decide +kernel
theorem dX4_empties_188 : decode cX4_empties 188 = .ok (.iconst 0, 1) := by decide +kernel
theorem dX4_empties_189 : decode cX4_empties 189 = .ok (.iload 4, 2) := by decide +kernel
theorem dX4_empties_191 : decode cX4_empties 191 = .ok (.bipush 10, 2) := by decide +kernel
theorem dX4_empties_193 : decode cX4_empties 193 = .ok (.if_icmp .lt 7, 3) := by decide +kernel
theorem dX4_empties_196 : decode cX4_empties 196 = .ok (.iconst 5, 1) := by decide +kernel
theorem dX4_empties_197 : decode cX4_empties 197 = .ok (.goto 4, 3) := by decide +kernel
theorem dX4_empties_200 : decode cX4_empties 200 = .ok (.iconst 0, 1) := by decide +kernel
theorem dX4_empties_201 : decode cX4_empties 201 = .ok (.invokevirtual 63, 3) := by decide +kernel
theorem dX4_empties_204 : decode cX4_empties 204 = .ok (.return_, 1) := by decide +kernel
theorem dX4_goesOn_0 : decode cX4_goesOn 0 = .ok (.aload_n 0, 1) := by decide +kernel
theorem dX4_goesOn_1 : decode cX4_goesOn 1 = .ok (.iload_n 1, 1) := by decide +kernel
theorem dX4_goesOn_2 : decode cX4_goesOn 2 = .ok (.iconst 2, 1) := by decide +kernel
theorem dX4_goesOn_3 : decode cX4_goesOn 3 = .ok (.invokevirtual 47, 3) := by decide +kernel
theorem dX4_goesOn_6 : decode cX4_goesOn 6 = .ok (.istore_n 2, 1) := by decide +kernel
theorem dX4_goesOn_7 : decode cX4_goesOn 7 = .ok (.aload_n 0, 1) := by decide +kernel
theorem dX4_goesOn_8 : decode cX4_goesOn 8 = .ok (.iload_n 1, 1) := by decide +kernel
theorem dX4_goesOn_9 : decode cX4_goesOn 9 = .ok (.iconst 3, 1) := by decide +kernel
theorem dX4_goesOn_10 : decode cX4_goesOn 10 = .ok (.invokevirtual 47, 3) := by decide +kernel
theorem dX4_goesOn_13 : decode cX4_goesOn 13 = .ok (.iconst 1, 1) := by decide +kernel
theorem dX4_goesOn_14 : decode cX4_goesOn 14 = .ok (.isub, 1) := by decide +kernel
theorem dX4_goesOn_15 : decode cX4_goesOn 15 = .ok (.istore_n 3, 1) := by decide +kernel
theorem dX4_goesOn_16 : decode cX4_goesOn 16 = .ok (.aload_n 0, 1) := by decide +kernel
theorem dX4_goesOn_17 : decode cX4_goesOn 17 = .ok (.iload_n 1, 1) := by decide +kernel
theorem dX4_goesOn_18 : decode cX4_goesOn 18 = .ok (.iconst 3, 1) := by decide +kernel
theorem dX4_goesOn_19 : decode cX4_goesOn 19 = .ok (.iload_n 3, 1) := by decide +kernel
theorem dX4_goesOn_20 : decode cX4_goesOn 20 = .ok (.invokevirtual 56, 3) := by decide +kernel
theorem dX4_goesOn_23 : decode cX4_goesOn 23 = .ok (.aload_n 0, 1) := by decide +kernel
theorem dX4_goesOn_24 : decode cX4_goesOn 24 = .ok (.iload_n 1, 1) := by decide +kernel
theorem dX4_goesOn_25 : decode cX4_goesOn 25 = .ok (.bipush 7, 2) := by decide +kernel
theorem dX4_goesOn_27 : decode cX4_goesOn 27 = .ok (.aload_n 0, 1) := by decide +kernel
theorem dX4_goesOn_28 : decode cX4_goesOn 28 = .ok (.iload_n 1, 1) := by decide +kernel
theorem dX4_goesOn_29 : decode cX4_goesOn 29 = .ok (.bipush 7, 2) := by decide +kernel
theorem dX4_goesOn_31 : decode cX4_goesOn 31 = .ok (.invokevirtual 47, 3) := by decide +kernel
theorem dX4_goesOn_34 : decode cX4_goesOn 34 = .ok (.iload_n 2, 1) := by decide +kernel
theorem dX4_goesOn_35 : decode cX4_goesOn 35 = .ok (.iconst 1, 1) := by decide +kernel
theorem dX4_goesOn_36 : decode cX4_goesOn 36 = .ok (.if_icmp .ne 7, 3) := by decide +kernel
theorem dX4_goesOn_39 : decode cX4_goesOn 39 = .ok (.iconst 1, 1) := by decide +kernel
theorem dX4_goesOn_40 : decode cX4_goesOn 40 = .ok (.goto 4, 3) := by decide +kernel
theorem dX4_goesOn_43 : decode cX4_goesOn 43 = .ok (.iconst 0, 1) := by decide +kernel
theorem dX4_goesOn_44 : decode cX4_goesOn 44 = .ok (.iadd, 1) := by decide +kernel
theorem dX4_goesOn_45 : decode cX4_goesOn 45 = .ok (.invokevirtual 56, 3) := by decide +kernel
theorem dX4_goesOn_48 : decode cX4_goesOn 48 = .ok (.iload_n 3, 1) := by decide +kernel
theorem dX4_goesOn_49 : decode cX4_goesOn 49 = .ok (.ifCond .le 4, 3) := by decide +kernel
theorem dX4_goesOn_52 : decode cX4_goesOn 52 = .ok (.return_, 1) := by decide +kernel
theorem dX4_goesOn_53 : decode cX4_goesOn 53 = .ok (.iload_n 2, 1) := by decide +kernel
theorem dX4_goesOn_54 : decode cX4_goesOn 54 = .ok (.iconst 1, 1) := by decide +kernel
theorem dX4_goesOn_55 : decode cX4_goesOn 55 = .ok (.if_icmp .ne 40, 3) := by decide +kernel
theorem dX4_goesOn_58 : decode cX4_goesOn 58 = .ok (.aload_n 0, 1) := by decide +kernel
theorem dX4_goesOn_59 : decode cX4_goesOn 59 = .ok (.iload_n 1, 1) := by decide +kernel
theorem dX4_goesOn_60 : decode cX4_goesOn 60 = .ok (.iconst 4, 1) := by decide +kernel
theorem dX4_goesOn_61 : decode cX4_goesOn 61 = .ok (.invokevirtual 47, 3) := by decide +kernel
theorem dX4_goesOn_64 : decode cX4_goesOn 64 = .ok (.istore 4, 2) := by decide +kernel
theorem dX4_goesOn_66 : decode cX4_goesOn 66 = .ok (.aload_n 0, 1) := by decide +kernel
theorem dX4_goesOn_67 : decode cX4_goesOn 67 = .ok (.iload_n 1, 1) := by decide +kernel
theorem dX4_goesOn_68 : decode cX4_goesOn 68 = .ok (.iconst 0, 1) := by decide +kernel
theorem dX4_goesOn_69 : decode cX4_goesOn 69 = .ok (.aload_n 0, 1) := by decide +kernel
theorem dX4_goesOn_70 : decode cX4_goesOn 70 = .ok (.iload 4, 2) := by decide +kernel
theorem dX4_goesOn_72 : decode cX4_goesOn 72 = .ok (.iconst 0, 1) := by decide +kernel
theorem dX4_goesOn_73 : decode cX4_goesOn 73 = .ok (.invokevirtual 43, 3) := by decide +kernel
theorem dX4_goesOn_76 : decode cX4_goesOn 76 = .ok (.invokevirtual 56, 3) := by decide +kernel
theorem dX4_goesOn_79 : decode cX4_goesOn 79 = .ok (.aload_n 0, 1) := by decide +kernel
theorem dX4_goesOn_80 : decode cX4_goesOn 80 = .ok (.iload_n 1, 1) := by decide +kernel
theorem dX4_goesOn_81 : decode cX4_goesOn 81 = .ok (.iconst 2, 1) := by decide +kernel
theorem dX4_goesOn_82 : decode cX4_goesOn 82 = .ok (.aload_n 0, 1) := by decide +kernel
theorem dX4_goesOn_83 : decode cX4_goesOn 83 = .ok (.iload 4, 2) := by decide +kernel
theorem dX4_goesOn_85 : decode cX4_goesOn 85 = .ok (.iload_n 1, 1) := by decide +kernel
theorem dX4_goesOn_86 : decode cX4_goesOn 86 = .ok (.invokevirtual 66, 3) := by decide +kernel
theorem dX4_goesOn_89 : decode cX4_goesOn 89 = .ok (.invokevirtual 63, 3) := by decide +kernel
theorem dX4_goesOn_92 : decode cX4_goesOn 92 = .ok (.goto 51, 3) := by decide +kernel
theorem dX4_goesOn_95 : decode cX4_goesOn 95 = .ok (.iload_n 2, 1) := by decide +kernel
theorem dX4_goesOn_96 : decode cX4_goesOn 96 = .ok (.iconst 2, 1) := by decide +kernel
theorem dX4_goesOn_97 : decode cX4_goesOn 97 = .ok (.if_icmp .ne 11, 3) := by decide +kernel
theorem dX4_goesOn_100 : decode cX4_goesOn 100 = .ok (.aload_n 0, 1) := by decide +kernel
theorem dX4_goesOn_101 : decode cX4_goesOn 101 = .ok (.iload_n 1, 1) := by decide +kernel
theorem dX4_goesOn_102 : decode cX4_goesOn 102 = .ok (.invokevirtual 69, 3) := by decide +kernel
theorem dX4_goesOn_105 : decode cX4_goesOn 105 = .ok (.goto 38, 3) := by decide +kernel
theorem dX4_goesOn_108 : decode cX4_goesOn 108 = .ok (.aload_n 0, 1) := by decide +kernel
theorem dX4_goesOn_109 : decode cX4_goesOn 109 = .ok (.iload_n 1, 1) := by decide +kernel
theorem dX4_goesOn_110 : decode cX4_goesOn 110 = .ok (.iconst 1, 1) := by decide +kernel
theorem dX4_goesOn_111 : decode cX4_goesOn 111 = .ok (.invokevirtual 47, 3) := by decide +kernel
theorem dX4_goesOn_114 : decode cX4_goesOn 114 = .ok (.bipush 6, 2) := by decide +kernel
theorem dX4_goesOn_116 : decode cX4_goesOn 116 = .ok (.isub, 1) := by decide +kernel
theorem dX4_goesOn_117 : decode cX4_goesOn 117 = .ok (.istore 4, 2) := by decide +kernel
theorem dX4_goesOn_119 : decode cX4_goesOn 119 = .ok (.aload_n 0, 1) := by decide +kernel
theorem dX4_goesOn_120 : decode cX4_goesOn 120 = .ok (.iload_n 1, 1) := by decide +kernel
theorem dX4_goesOn_121 : decode cX4_goesOn 121 = .ok (.iconst 1, 1) := by decide +kernel
theorem dX4_goesOn_122 : decode cX4_goesOn 122 = .ok (.iload 4, 2) := by decide +kernel
theorem dX4_goesOn_124 : decode cX4_goesOn 124 = .ok (.ifCond .ge 7, 3) := by decide +kernel
theorem dX4_goesOn_127 : decode cX4_goesOn 127 = .ok (.iconst 0, 1) := by decide +kernel
theorem dX4_goesOn_128 : decode cX4_goesOn 128 = .ok (.goto 5, 3) := by decide +kernel
theorem dX4_goesOn_131 : decode cX4_goesOn 131 = .ok (.iload 4, 2) := by decide +kernel
theorem dX4_goesOn_133 : decode cX4_goesOn 133 = .ok (.invokevirtual 56, 3) := by decide +kernel
theorem dX4_goesOn_136 : decode cX4_goesOn 136 = .ok (.aload_n 0, 1) := by decide +kernel
theorem dX4_goesOn_137 : decode cX4_goesOn 137 = .ok (.iload_n 1, 1) := by decide +kernel
theorem dX4_goesOn_138 : decode cX4_goesOn 138 = .ok (.iconst 0, 1) := by decide +kernel
theorem dX4_goesOn_139 : decode cX4_goesOn 139 = .ok (.iconst 0, 1) := by decide +kernel
theorem dX4_goesOn_140 : decode cX4_goesOn 140 = .ok (.invokevirtual 63, 3) := by decide +kernel
theorem dX4_goesOn_143 : decode cX4_goesOn 143 = .ok (.return_, 1) := by decide +kernel
theorem dX4_takes_0 : decode cX4_takes 0 = .ok (.aload_n 0, 1) := by decide +kernel
theorem dX4_takes_1 : decode cX4_takes 1 = .ok (.aload_n 0, 1) := by decide +kernel
theorem dX4_takes_2 : decode cX4_takes 2 = .ok (.iload_n 1, 1) := by decide +kernel
theorem dX4_takes_3 : decode cX4_takes 3 = .ok (.iconst 0, 1) := by decide +kernel
theorem dX4_takes_4 : decode cX4_takes 4 = .ok (.invokevirtual 47, 3) := by decide +kernel
theorem dX4_takes_7 : decode cX4_takes 7 = .ok (.invokevirtual 73, 3) := by decide +kernel
theorem dX4_takes_10 : decode cX4_takes 10 = .ok (.istore_n 2, 1) := by decide +kernel
theorem dX4_takes_11 : decode cX4_takes 11 = .ok (.iload_n 2, 1) := by decide +kernel
theorem dX4_takes_12 : decode cX4_takes 12 = .ok (.iconst (-1), 1) := by decide +kernel
theorem dX4_takes_13 : decode cX4_takes 13 = .ok (.if_icmp .ne 4, 3) := by decide +kernel
theorem dX4_takes_16 : decode cX4_takes 16 = .ok (.return_, 1) := by decide +kernel
theorem dX4_takes_17 : decode cX4_takes 17 = .ok (.aload_n 0, 1) := by decide +kernel
theorem dX4_takes_18 : decode cX4_takes 18 = .ok (.aload_n 0, 1) := by decide +kernel
theorem dX4_takes_19 : decode cX4_takes 19 = .ok (.iload_n 1, 1) := by decide +kernel
theorem dX4_takes_20 : decode cX4_takes 20 = .ok (.iconst 0, 1) := by decide +kernel
theorem dX4_takes_21 : decode cX4_takes 21 = .ok (.invokevirtual 47, 3) := by decide +kernel
theorem dX4_takes_24 : decode cX4_takes 24 = .ok (.aload_n 0, 1) := by decide +kernel
theorem dX4_takes_25 : decode cX4_takes 25 = .ok (.iload_n 2, 1) := by decide +kernel
theorem dX4_takes_26 : decode cX4_takes 26 = .ok (.iconst 0, 1) := by decide +kernel
theorem dX4_takes_27 : decode cX4_takes 27 = .ok (.invokevirtual 43, 3) := by decide +kernel
theorem dX4_takes_30 : decode cX4_takes 30 = .ok (.invokevirtual 53, 3) := by decide +kernel
theorem dX4_takes_33 : decode cX4_takes 33 = .ok (.istore_n 3, 1) := by decide +kernel
theorem dX4_takes_34 : decode cX4_takes 34 = .ok (.aload_n 0, 1) := by decide +kernel
theorem dX4_takes_35 : decode cX4_takes 35 = .ok (.iload_n 2, 1) := by decide +kernel
theorem dX4_takes_36 : decode cX4_takes 36 = .ok (.iconst 4, 1) := by decide +kernel
theorem dX4_takes_37 : decode cX4_takes 37 = .ok (.iconst 1, 1) := by decide +kernel
theorem dX4_takes_38 : decode cX4_takes 38 = .ok (.invokevirtual 60, 3) := by decide +kernel
theorem dX4_takes_41 : decode cX4_takes 41 = .ok (.aload_n 0, 1) := by decide +kernel
theorem dX4_takes_42 : decode cX4_takes 42 = .ok (.iload_n 2, 1) := by decide +kernel
theorem dX4_takes_43 : decode cX4_takes 43 = .ok (.iconst 5, 1) := by decide +kernel
theorem dX4_takes_44 : decode cX4_takes 44 = .ok (.iload_n 1, 1) := by decide +kernel
theorem dX4_takes_45 : decode cX4_takes 45 = .ok (.invokevirtual 60, 3) := by decide +kernel
theorem dX4_takes_48 : decode cX4_takes 48 = .ok (.aload_n 0, 1) := by decide +kernel
theorem dX4_takes_49 : decode cX4_takes 49 = .ok (.iload_n 1, 1) := by decide +kernel
theorem dX4_takes_50 : decode cX4_takes 50 = .ok (.iconst 4, 1) := by decide +kernel
theorem dX4_takes_51 : decode cX4_takes 51 = .ok (.iload_n 2, 1) := by decide +kernel
theorem dX4_takes_52 : decode cX4_takes 52 = .ok (.invokevirtual 56, 3) := by decide +kernel
theorem dX4_takes_55 : decode cX4_takes 55 = .ok (.aload_n 0, 1) := by decide +kernel
theorem dX4_takes_56 : decode cX4_takes 56 = .ok (.iload_n 1, 1) := by decide +kernel
theorem dX4_takes_57 : decode cX4_takes 57 = .ok (.iload_n 3, 1) := by decide +kernel
theorem dX4_takes_58 : decode cX4_takes 58 = .ok (.ifCond .ne 7, 3) := by decide +kernel
theorem dX4_takes_61 : decode cX4_takes 61 = .ok (.iconst 2, 1) := by decide +kernel
theorem dX4_takes_62 : decode cX4_takes 62 = .ok (.goto 4, 3) := by decide +kernel
theorem dX4_takes_65 : decode cX4_takes 65 = .ok (.iconst 1, 1) := by decide +kernel
theorem dX4_takes_66 : decode cX4_takes 66 = .ok (.iload_n 3, 1) := by decide +kernel
theorem dX4_takes_67 : decode cX4_takes 67 = .ok (.ifCond .ne 12, 3) := by decide +kernel
theorem dX4_takes_70 : decode cX4_takes 70 = .ok (.aload_n 0, 1) := by decide +kernel
theorem dX4_takes_71 : decode cX4_takes 71 = .ok (.iload_n 2, 1) := by decide +kernel
theorem dX4_takes_72 : decode cX4_takes 72 = .ok (.iload_n 1, 1) := by decide +kernel
theorem dX4_takes_73 : decode cX4_takes 73 = .ok (.invokevirtual 66, 3) := by decide +kernel
theorem dX4_takes_76 : decode cX4_takes 76 = .ok (.goto 4, 3) := by decide +kernel
theorem dX4_takes_79 : decode cX4_takes 79 = .ok (.iload_n 3, 1) := by decide +kernel
theorem dX4_takes_80 : decode cX4_takes 80 = .ok (.invokevirtual 63, 3) := by decide +kernel
theorem dX4_takes_83 : decode cX4_takes 83 = .ok (.return_, 1) := by decide +kernel
theorem dX4_minute_0 : decode cX4_minute 0 = .ok (.iconst 0, 1) := by decide +kernel
theorem dX4_minute_1 : decode cX4_minute 1 = .ok (.istore_n 1, 1) := by decide +kernel
theorem dX4_minute_2 : decode cX4_minute 2 = .ok (.iload_n 1, 1) := by decide +kernel
theorem dX4_minute_3 : decode cX4_minute 3 = .ok (.aload_n 0, 1) := by decide +kernel
theorem dX4_minute_4 : decode cX4_minute 4 = .ok (.getfield 7, 3) := by decide +kernel
theorem dX4_minute_7 : decode cX4_minute 7 = .ok (.bipush 7, 2) := by decide +kernel
theorem dX4_minute_9 : decode cX4_minute 9 = .ok (.iaload, 1) := by decide +kernel
theorem dX4_minute_10 : decode cX4_minute 10 = .ok (.if_icmp .ge 60, 3) := by decide +kernel
theorem dX4_minute_13 : decode cX4_minute 13 = .ok (.aload_n 0, 1) := by decide +kernel
theorem dX4_minute_14 : decode cX4_minute 14 = .ok (.getfield 7, 3) := by decide +kernel
theorem dX4_minute_17 : decode cX4_minute 17 = .ok (.bipush 9, 2) := by decide +kernel
theorem dX4_minute_19 : decode cX4_minute 19 = .ok (.iaload, 1) := by decide +kernel
theorem dX4_minute_20 : decode cX4_minute 20 = .ok (.bipush 10, 2) := by decide +kernel
theorem dX4_minute_22 : decode cX4_minute 22 = .ok (.irem, 1) := by decide +kernel
theorem dX4_minute_23 : decode cX4_minute 23 = .ok (.bipush 9, 2) := by decide +kernel
theorem dX4_minute_25 : decode cX4_minute 25 = .ok (.if_icmp .ne 45, 3) := by decide +kernel
theorem dX4_minute_28 : decode cX4_minute 28 = .ok (.aload_n 0, 1) := by decide +kernel
theorem dX4_minute_29 : decode cX4_minute 29 = .ok (.iload_n 1, 1) := by decide +kernel
theorem dX4_minute_30 : decode cX4_minute 30 = .ok (.iconst 2, 1) := by decide +kernel
theorem dX4_minute_31 : decode cX4_minute 31 = .ok (.invokevirtual 43, 3) := by decide +kernel
theorem dX4_minute_34 : decode cX4_minute 34 = .ok (.istore_n 2, 1) := by decide +kernel
theorem dX4_minute_35 : decode cX4_minute 35 = .ok (.aload_n 0, 1) := by decide +kernel
theorem dX4_minute_36 : decode cX4_minute 36 = .ok (.iload_n 1, 1) := by decide +kernel
theorem dX4_minute_37 : decode cX4_minute 37 = .ok (.iconst 2, 1) := by decide +kernel
theorem dX4_minute_38 : decode cX4_minute 38 = .ok (.aload_n 0, 1) := by decide +kernel
theorem dX4_minute_39 : decode cX4_minute 39 = .ok (.iload_n 1, 1) := by decide +kernel
theorem dX4_minute_40 : decode cX4_minute 40 = .ok (.iconst 4, 1) := by decide +kernel
theorem dX4_minute_41 : decode cX4_minute 41 = .ok (.invokevirtual 43, 3) := by decide +kernel
theorem dX4_minute_44 : decode cX4_minute 44 = .ok (.iconst 2, 1) := by decide +kernel
theorem dX4_minute_45 : decode cX4_minute 45 = .ok (.if_icmp .ge 15, 3) := by decide +kernel
theorem dX4_minute_48 : decode cX4_minute 48 = .ok (.iload_n 2, 1) := by decide +kernel
theorem dX4_minute_49 : decode cX4_minute 49 = .ok (.bipush 20, 2) := by decide +kernel
theorem dX4_minute_51 : decode cX4_minute 51 = .ok (.if_icmp .ge 9, 3) := by decide +kernel
theorem dX4_minute_54 : decode cX4_minute 54 = .ok (.iload_n 2, 1) := by decide +kernel
theorem dX4_minute_55 : decode cX4_minute 55 = .ok (.iconst 1, 1) := by decide +kernel
theorem dX4_minute_56 : decode cX4_minute 56 = .ok (.iadd, 1) := by decide +kernel
theorem dX4_minute_57 : decode cX4_minute 57 = .ok (.goto 4, 3) := by decide +kernel
theorem dX4_minute_60 : decode cX4_minute 60 = .ok (.iload_n 2, 1) := by decide +kernel
theorem dX4_minute_61 : decode cX4_minute 61 = .ok (.invokevirtual 60, 3) := by decide +kernel
theorem dX4_minute_64 : decode cX4_minute 64 = .ok (.iinc 1 1, 3) := by decide +kernel
theorem dX4_minute_67 : decode cX4_minute 67 = .ok (.goto (-65), 3) := by decide +kernel
theorem dX4_minute_70 : decode cX4_minute 70 = .ok (.iconst 0, 1) := by decide +kernel
theorem dX4_minute_71 : decode cX4_minute 71 = .ok (.istore_n 1, 1) := by decide +kernel
theorem dX4_minute_72 : decode cX4_minute 72 = .ok (.iload_n 1, 1) := by decide +kernel
theorem dX4_minute_73 : decode cX4_minute 73 = .ok (.aload_n 0, 1) := by decide +kernel
theorem dX4_minute_74 : decode cX4_minute 74 = .ok (.getfield 7, 3) := by decide +kernel
theorem dX4_minute_77 : decode cX4_minute 77 = .ok (.bipush 8, 2) := by decide +kernel
theorem dX4_minute_79 : decode cX4_minute 79 = .ok (.iaload, 1) := by decide +kernel
theorem dX4_minute_80 : decode cX4_minute 80 = .ok (.if_icmp .ge 23, 3) := by decide +kernel
theorem dX4_minute_83 : decode cX4_minute 83 = .ok (.aload_n 0, 1) := by decide +kernel
theorem dX4_minute_84 : decode cX4_minute 84 = .ok (.iload_n 1, 1) := by decide +kernel
theorem dX4_minute_85 : decode cX4_minute 85 = .ok (.iconst 2, 1) := by decide +kernel
theorem dX4_minute_86 : decode cX4_minute 86 = .ok (.invokevirtual 47, 3) := by decide +kernel
theorem dX4_minute_89 : decode cX4_minute 89 = .ok (.ifCond .le 8, 3) := by decide +kernel
theorem dX4_minute_92 : decode cX4_minute 92 = .ok (.aload_n 0, 1) := by decide +kernel
theorem dX4_minute_93 : decode cX4_minute 93 = .ok (.iload_n 1, 1) := by decide +kernel
theorem dX4_minute_94 : decode cX4_minute 94 = .ok (.invokevirtual 76, 3) := by decide +kernel
theorem dX4_minute_97 : decode cX4_minute 97 = .ok (.iinc 1 1, 3) := by decide +kernel
theorem dX4_minute_100 : decode cX4_minute 100 = .ok (.goto (-28), 3) := by decide +kernel
theorem dX4_minute_103 : decode cX4_minute 103 = .ok (.iconst 0, 1) := by decide +kernel
theorem dX4_minute_104 : decode cX4_minute 104 = .ok (.istore_n 1, 1) := by decide +kernel
theorem dX4_minute_105 : decode cX4_minute 105 = .ok (.iload_n 1, 1) := by decide +kernel
theorem dX4_minute_106 : decode cX4_minute 106 = .ok (.aload_n 0, 1) := by decide +kernel
theorem dX4_minute_107 : decode cX4_minute 107 = .ok (.getfield 7, 3) := by decide +kernel
theorem dX4_minute_110 : decode cX4_minute 110 = .ok (.bipush 8, 2) := by decide +kernel
theorem dX4_minute_112 : decode cX4_minute 112 = .ok (.iaload, 1) := by decide +kernel
theorem dX4_minute_113 : decode cX4_minute 113 = .ok (.if_icmp .ge 23, 3) := by decide +kernel
theorem dX4_minute_116 : decode cX4_minute 116 = .ok (.aload_n 0, 1) := by decide +kernel
theorem dX4_minute_117 : decode cX4_minute 117 = .ok (.iload_n 1, 1) := by decide +kernel
theorem dX4_minute_118 : decode cX4_minute 118 = .ok (.iconst 2, 1) := by decide +kernel
theorem dX4_minute_119 : decode cX4_minute 119 = .ok (.invokevirtual 47, 3) := by decide +kernel
theorem dX4_minute_122 : decode cX4_minute 122 = .ok (.ifCond .ne 8, 3) := by decide +kernel
theorem dX4_minute_125 : decode cX4_minute 125 = .ok (.aload_n 0, 1) := by decide +kernel
theorem dX4_minute_126 : decode cX4_minute 126 = .ok (.iload_n 1, 1) := by decide +kernel
theorem dX4_minute_127 : decode cX4_minute 127 = .ok (.invokevirtual 79, 3) := by decide +kernel
theorem dX4_minute_130 : decode cX4_minute 130 = .ok (.iinc 1 1, 3) := by decide +kernel
theorem dX4_minute_133 : decode cX4_minute 133 = .ok (.goto (-28), 3) := by decide +kernel
theorem dX4_minute_136 : decode cX4_minute 136 = .ok (.aload_n 0, 1) := by decide +kernel
theorem dX4_minute_137 : decode cX4_minute 137 = .ok (.getfield 7, 3) := by decide +kernel
theorem dX4_minute_140 : decode cX4_minute 140 = .ok (.bipush 9, 2) := by decide +kernel
theorem dX4_minute_142 : decode cX4_minute 142 = .ok (.dup2, 1) := by decide +kernel
theorem dX4_minute_143 : decode cX4_minute 143 = .ok (.iaload, 1) := by decide +kernel
theorem dX4_minute_144 : decode cX4_minute 144 = .ok (.iconst 1, 1) := by decide +kernel
theorem dX4_minute_145 : decode cX4_minute 145 = .ok (.iadd, 1) := by decide +kernel
theorem dX4_minute_146 : decode cX4_minute 146 = .ok (.iastore, 1) := by decide +kernel
theorem dX4_minute_147 : decode cX4_minute 147 = .ok (.return_, 1) := by decide +kernel
theorem dX4_foresees_0 : decode cX4_foresees 0 = .ok (.aload_n 0, 1) := by decide +kernel
theorem dX4_foresees_1 : decode cX4_foresees 1 = .ok (.getfield 19, 3) := by decide +kernel
theorem dX4_foresees_4 : decode cX4_foresees 4 = .ok (.aload_n 0, 1) := by decide +kernel
theorem dX4_foresees_5 : decode cX4_foresees 5 = .ok (.getfield 7, 3) := by decide +kernel
theorem dX4_foresees_8 : decode cX4_foresees 8 = .ok (.invokestatic 32, 3) := by decide +kernel
theorem dX4_foresees_11 : decode cX4_foresees 11 = .ok (.aload_n 0, 1) := by decide +kernel
theorem dX4_foresees_12 : decode cX4_foresees 12 = .ok (.iconst 0, 1) := by decide +kernel
theorem dX4_foresees_13 : decode cX4_foresees 13 = .ok (.putfield 82, 3) := by decide +kernel
theorem dX4_foresees_16 : decode cX4_foresees 16 = .ok (.aload_n 0, 1) := by decide +kernel
theorem dX4_foresees_17 : decode cX4_foresees 17 = .ok (.getfield 82, 3) := by decide +kernel
theorem dX4_foresees_20 : decode cX4_foresees 20 = .ok (.sipush 1000, 3) := by decide +kernel
theorem dX4_foresees_23 : decode cX4_foresees 23 = .ok (.if_icmp .ge 37, 3) := by decide +kernel
theorem dX4_foresees_26 : decode cX4_foresees 26 = .ok (.aload_n 0, 1) := by decide +kernel
theorem dX4_foresees_27 : decode cX4_foresees 27 = .ok (.getfield 7, 3) := by decide +kernel
theorem dX4_foresees_30 : decode cX4_foresees 30 = .ok (.bipush 12, 2) := by decide +kernel
theorem dX4_foresees_32 : decode cX4_foresees 32 = .ok (.iaload, 1) := by decide +kernel
theorem dX4_foresees_33 : decode cX4_foresees 33 = .ok (.aload_n 0, 1) := by decide +kernel
theorem dX4_foresees_34 : decode cX4_foresees 34 = .ok (.getfield 7, 3) := by decide +kernel
theorem dX4_foresees_37 : decode cX4_foresees 37 = .ok (.bipush 7, 2) := by decide +kernel
theorem dX4_foresees_39 : decode cX4_foresees 39 = .ok (.iaload, 1) := by decide +kernel
theorem dX4_foresees_40 : decode cX4_foresees 40 = .ok (.if_icmp .ge 20, 3) := by decide +kernel
theorem dX4_foresees_43 : decode cX4_foresees 43 = .ok (.aload_n 0, 1) := by decide +kernel
theorem dX4_foresees_44 : decode cX4_foresees 44 = .ok (.invokevirtual 85, 3) := by decide +kernel
theorem dX4_foresees_47 : decode cX4_foresees 47 = .ok (.aload_n 0, 1) := by decide +kernel
theorem dX4_foresees_48 : decode cX4_foresees 48 = .ok (.dup, 1) := by decide +kernel
theorem dX4_foresees_49 : decode cX4_foresees 49 = .ok (.getfield 82, 3) := by decide +kernel
theorem dX4_foresees_52 : decode cX4_foresees 52 = .ok (.iconst 1, 1) := by decide +kernel
theorem dX4_foresees_53 : decode cX4_foresees 53 = .ok (.iadd, 1) := by decide +kernel
theorem dX4_foresees_54 : decode cX4_foresees 54 = .ok (.putfield 82, 3) := by decide +kernel
theorem dX4_foresees_57 : decode cX4_foresees 57 = .ok (.goto (-41), 3) := by decide +kernel
theorem dX4_foresees_60 : decode cX4_foresees 60 = .ok (.aload_n 0, 1) := by decide +kernel
theorem dX4_foresees_61 : decode cX4_foresees 61 = .ok (.aload_n 0, 1) := by decide +kernel
theorem dX4_foresees_62 : decode cX4_foresees 62 = .ok (.getfield 7, 3) := by decide +kernel
theorem dX4_foresees_65 : decode cX4_foresees 65 = .ok (.bipush 12, 2) := by decide +kernel
theorem dX4_foresees_67 : decode cX4_foresees 67 = .ok (.iaload, 1) := by decide +kernel
theorem dX4_foresees_68 : decode cX4_foresees 68 = .ok (.aload_n 0, 1) := by decide +kernel
theorem dX4_foresees_69 : decode cX4_foresees 69 = .ok (.getfield 7, 3) := by decide +kernel
theorem dX4_foresees_72 : decode cX4_foresees 72 = .ok (.bipush 7, 2) := by decide +kernel
theorem dX4_foresees_74 : decode cX4_foresees 74 = .ok (.iaload, 1) := by decide +kernel
theorem dX4_foresees_75 : decode cX4_foresees 75 = .ok (.if_icmp .ge 7, 3) := by decide +kernel
theorem dX4_foresees_78 : decode cX4_foresees 78 = .ok (.iconst (-1), 1) := by decide +kernel
theorem dX4_foresees_79 : decode cX4_foresees 79 = .ok (.goto 7, 3) := by decide +kernel
theorem dX4_foresees_82 : decode cX4_foresees 82 = .ok (.aload_n 0, 1) := by decide +kernel
theorem dX4_foresees_83 : decode cX4_foresees 83 = .ok (.getfield 82, 3) := by decide +kernel
theorem dX4_foresees_86 : decode cX4_foresees 86 = .ok (.putfield 82, 3) := by decide +kernel
theorem dX4_foresees_89 : decode cX4_foresees 89 = .ok (.iconst 0, 1) := by decide +kernel
theorem dX4_foresees_90 : decode cX4_foresees 90 = .ok (.istore_n 1, 1) := by decide +kernel
theorem dX4_foresees_91 : decode cX4_foresees 91 = .ok (.iload_n 1, 1) := by decide +kernel
theorem dX4_foresees_92 : decode cX4_foresees 92 = .ok (.aload_n 0, 1) := by decide +kernel
theorem dX4_foresees_93 : decode cX4_foresees 93 = .ok (.getfield 7, 3) := by decide +kernel
theorem dX4_foresees_96 : decode cX4_foresees 96 = .ok (.bipush 7, 2) := by decide +kernel
theorem dX4_foresees_98 : decode cX4_foresees 98 = .ok (.iaload, 1) := by decide +kernel
theorem dX4_foresees_99 : decode cX4_foresees 99 = .ok (.if_icmp .ge 22, 3) := by decide +kernel
theorem dX4_foresees_102 : decode cX4_foresees 102 = .ok (.aload_n 0, 1) := by decide +kernel
theorem dX4_foresees_103 : decode cX4_foresees 103 = .ok (.getfield 25, 3) := by decide +kernel
theorem dX4_foresees_106 : decode cX4_foresees 106 = .ok (.iload_n 1, 1) := by decide +kernel
theorem dX4_foresees_107 : decode cX4_foresees 107 = .ok (.aload_n 0, 1) := by decide +kernel
theorem dX4_foresees_108 : decode cX4_foresees 108 = .ok (.iload_n 1, 1) := by decide +kernel
theorem dX4_foresees_109 : decode cX4_foresees 109 = .ok (.bipush 6, 2) := by decide +kernel
theorem dX4_foresees_111 : decode cX4_foresees 111 = .ok (.invokevirtual 43, 3) := by decide +kernel
theorem dX4_foresees_114 : decode cX4_foresees 114 = .ok (.iastore, 1) := by decide +kernel
theorem dX4_foresees_115 : decode cX4_foresees 115 = .ok (.iinc 1 1, 3) := by decide +kernel
theorem dX4_foresees_118 : decode cX4_foresees 118 = .ok (.goto (-27), 3) := by decide +kernel
theorem dX4_foresees_121 : decode cX4_foresees 121 = .ok (.aload_n 0, 1) := by decide +kernel
theorem dX4_foresees_122 : decode cX4_foresees 122 = .ok (.getfield 7, 3) := by decide +kernel
theorem dX4_foresees_125 : decode cX4_foresees 125 = .ok (.aload_n 0, 1) := by decide +kernel
theorem dX4_foresees_126 : decode cX4_foresees 126 = .ok (.getfield 19, 3) := by decide +kernel
theorem dX4_foresees_129 : decode cX4_foresees 129 = .ok (.invokestatic 32, 3) := by decide +kernel
theorem dX4_foresees_132 : decode cX4_foresees 132 = .ok (.return_, 1) := by decide +kernel
theorem dX4_addsChair_0 : decode cX4_addsChair 0 = .ok (.aload_n 0, 1) := by decide +kernel
theorem dX4_addsChair_1 : decode cX4_addsChair 1 = .ok (.getfield 7, 3) := by decide +kernel
theorem dX4_addsChair_4 : decode cX4_addsChair 4 = .ok (.bipush 7, 2) := by decide +kernel
theorem dX4_addsChair_6 : decode cX4_addsChair 6 = .ok (.iaload, 1) := by decide +kernel
theorem dX4_addsChair_7 : decode cX4_addsChair 7 = .ok (.istore 5, 2) := by decide +kernel
theorem dX4_addsChair_9 : decode cX4_addsChair 9 = .ok (.aload_n 0, 1) := by decide +kernel
theorem dX4_addsChair_10 : decode cX4_addsChair 10 = .ok (.iload 5, 2) := by decide +kernel
theorem dX4_addsChair_12 : decode cX4_addsChair 12 = .ok (.iconst 0, 1) := by decide +kernel
theorem dX4_addsChair_13 : decode cX4_addsChair 13 = .ok (.iload_n 1, 1) := by decide +kernel
theorem dX4_addsChair_14 : decode cX4_addsChair 14 = .ok (.invokevirtual 60, 3) := by decide +kernel
theorem dX4_addsChair_17 : decode cX4_addsChair 17 = .ok (.aload_n 0, 1) := by decide +kernel
theorem dX4_addsChair_18 : decode cX4_addsChair 18 = .ok (.iload 5, 2) := by decide +kernel
theorem dX4_addsChair_20 : decode cX4_addsChair 20 = .ok (.iconst 1, 1) := by decide +kernel
theorem dX4_addsChair_21 : decode cX4_addsChair 21 = .ok (.iload_n 2, 1) := by decide +kernel
theorem dX4_addsChair_22 : decode cX4_addsChair 22 = .ok (.invokevirtual 60, 3) := by decide +kernel
theorem dX4_addsChair_25 : decode cX4_addsChair 25 = .ok (.aload_n 0, 1) := by decide +kernel
theorem dX4_addsChair_26 : decode cX4_addsChair 26 = .ok (.iload 5, 2) := by decide +kernel
theorem dX4_addsChair_28 : decode cX4_addsChair 28 = .ok (.iconst 2, 1) := by decide +kernel
theorem dX4_addsChair_29 : decode cX4_addsChair 29 = .ok (.iload_n 3, 1) := by decide +kernel
theorem dX4_addsChair_30 : decode cX4_addsChair 30 = .ok (.invokevirtual 60, 3) := by decide +kernel
theorem dX4_addsChair_33 : decode cX4_addsChair 33 = .ok (.aload_n 0, 1) := by decide +kernel
theorem dX4_addsChair_34 : decode cX4_addsChair 34 = .ok (.iload 5, 2) := by decide +kernel
theorem dX4_addsChair_36 : decode cX4_addsChair 36 = .ok (.iconst 3, 1) := by decide +kernel
theorem dX4_addsChair_37 : decode cX4_addsChair 37 = .ok (.iload 4, 2) := by decide +kernel
theorem dX4_addsChair_39 : decode cX4_addsChair 39 = .ok (.invokevirtual 60, 3) := by decide +kernel
theorem dX4_addsChair_42 : decode cX4_addsChair 42 = .ok (.aload_n 0, 1) := by decide +kernel
theorem dX4_addsChair_43 : decode cX4_addsChair 43 = .ok (.iload 5, 2) := by decide +kernel
theorem dX4_addsChair_45 : decode cX4_addsChair 45 = .ok (.iconst 4, 1) := by decide +kernel
theorem dX4_addsChair_46 : decode cX4_addsChair 46 = .ok (.iconst 0, 1) := by decide +kernel
theorem dX4_addsChair_47 : decode cX4_addsChair 47 = .ok (.invokevirtual 60, 3) := by decide +kernel
theorem dX4_addsChair_50 : decode cX4_addsChair 50 = .ok (.aload_n 0, 1) := by decide +kernel
theorem dX4_addsChair_51 : decode cX4_addsChair 51 = .ok (.iload 5, 2) := by decide +kernel
theorem dX4_addsChair_53 : decode cX4_addsChair 53 = .ok (.iconst 5, 1) := by decide +kernel
theorem dX4_addsChair_54 : decode cX4_addsChair 54 = .ok (.iconst (-1), 1) := by decide +kernel
theorem dX4_addsChair_55 : decode cX4_addsChair 55 = .ok (.invokevirtual 60, 3) := by decide +kernel
theorem dX4_addsChair_58 : decode cX4_addsChair 58 = .ok (.aload_n 0, 1) := by decide +kernel
theorem dX4_addsChair_59 : decode cX4_addsChair 59 = .ok (.iload 5, 2) := by decide +kernel
theorem dX4_addsChair_61 : decode cX4_addsChair 61 = .ok (.bipush 6, 2) := by decide +kernel
theorem dX4_addsChair_63 : decode cX4_addsChair 63 = .ok (.iconst (-1), 1) := by decide +kernel
theorem dX4_addsChair_64 : decode cX4_addsChair 64 = .ok (.invokevirtual 60, 3) := by decide +kernel
theorem dX4_addsChair_67 : decode cX4_addsChair 67 = .ok (.aload_n 0, 1) := by decide +kernel
theorem dX4_addsChair_68 : decode cX4_addsChair 68 = .ok (.iload 5, 2) := by decide +kernel
theorem dX4_addsChair_70 : decode cX4_addsChair 70 = .ok (.bipush 7, 2) := by decide +kernel
theorem dX4_addsChair_72 : decode cX4_addsChair 72 = .ok (.iconst (-1), 1) := by decide +kernel
theorem dX4_addsChair_73 : decode cX4_addsChair 73 = .ok (.invokevirtual 60, 3) := by decide +kernel
theorem dX4_addsChair_76 : decode cX4_addsChair 76 = .ok (.aload_n 0, 1) := by decide +kernel
theorem dX4_addsChair_77 : decode cX4_addsChair 77 = .ok (.getfield 7, 3) := by decide +kernel
theorem dX4_addsChair_80 : decode cX4_addsChair 80 = .ok (.bipush 7, 2) := by decide +kernel
theorem dX4_addsChair_82 : decode cX4_addsChair 82 = .ok (.dup2, 1) := by decide +kernel
theorem dX4_addsChair_83 : decode cX4_addsChair 83 = .ok (.iaload, 1) := by decide +kernel
theorem dX4_addsChair_84 : decode cX4_addsChair 84 = .ok (.iconst 1, 1) := by decide +kernel
theorem dX4_addsChair_85 : decode cX4_addsChair 85 = .ok (.iadd, 1) := by decide +kernel
theorem dX4_addsChair_86 : decode cX4_addsChair 86 = .ok (.iastore, 1) := by decide +kernel
theorem dX4_addsChair_87 : decode cX4_addsChair 87 = .ok (.return_, 1) := by decide +kernel
theorem dX4_addChair_0 : decode cX4_addChair 0 = .ok (.aload_n 0, 1) := by decide +kernel
theorem dX4_addChair_1 : decode cX4_addChair 1 = .ok (.iload_n 1, 1) := by decide +kernel
theorem dX4_addChair_2 : decode cX4_addChair 2 = .ok (.invokevirtual 88, 3) := by decide +kernel
theorem dX4_addChair_5 : decode cX4_addChair 5 = .ok (.ifCond .ne 9, 3) := by decide +kernel
theorem dX4_addChair_8 : decode cX4_addChair 8 = .ok (.aload_n 0, 1) := by decide +kernel
theorem dX4_addChair_9 : decode cX4_addChair 9 = .ok (.iconst 1, 1) := by decide +kernel
theorem dX4_addChair_10 : decode cX4_addChair 10 = .ok (.invokevirtual 92, 3) := by decide +kernel
theorem dX4_addChair_13 : decode cX4_addChair 13 = .ok (.ireturn, 1) := by decide +kernel
theorem dX4_addChair_14 : decode cX4_addChair 14 = .ok (.iload_n 2, 1) := by decide +kernel
theorem dX4_addChair_15 : decode cX4_addChair 15 = .ok (.iconst 1, 1) := by decide +kernel
theorem dX4_addChair_16 : decode cX4_addChair 16 = .ok (.iconst 4, 1) := by decide +kernel
theorem dX4_addChair_17 : decode cX4_addChair 17 = .ok (.invokestatic 95, 3) := by decide +kernel
theorem dX4_addChair_20 : decode cX4_addChair 20 = .ok (.ifCond .eq 13, 3) := by decide +kernel
theorem dX4_addChair_23 : decode cX4_addChair 23 = .ok (.iload_n 3, 1) := by decide +kernel
theorem dX4_addChair_24 : decode cX4_addChair 24 = .ok (.iconst 0, 1) := by decide +kernel
theorem dX4_addChair_25 : decode cX4_addChair 25 = .ok (.bipush 20, 2) := by decide +kernel
theorem dX4_addChair_27 : decode cX4_addChair 27 = .ok (.invokestatic 95, 3) := by decide +kernel
theorem dX4_addChair_30 : decode cX4_addChair 30 = .ok (.ifCond .ne 9, 3) := by decide +kernel
theorem dX4_addChair_33 : decode cX4_addChair 33 = .ok (.aload_n 0, 1) := by decide +kernel
theorem dX4_addChair_34 : decode cX4_addChair 34 = .ok (.iconst 2, 1) := by decide +kernel
theorem dX4_addChair_35 : decode cX4_addChair 35 = .ok (.invokevirtual 92, 3) := by decide +kernel
theorem dX4_addChair_38 : decode cX4_addChair 38 = .ok (.ireturn, 1) := by decide +kernel
theorem dX4_addChair_39 : decode cX4_addChair 39 = .ok (.aload_n 0, 1) := by decide +kernel
theorem dX4_addChair_40 : decode cX4_addChair 40 = .ok (.getfield 7, 3) := by decide +kernel
theorem dX4_addChair_43 : decode cX4_addChair 43 = .ok (.bipush 7, 2) := by decide +kernel
theorem dX4_addChair_45 : decode cX4_addChair 45 = .ok (.iaload, 1) := by decide +kernel
theorem dX4_addChair_46 : decode cX4_addChair 46 = .ok (.bipush 14, 2) := by decide +kernel
theorem dX4_addChair_48 : decode cX4_addChair 48 = .ok (.if_icmp .ne 9, 3) := by decide +kernel
theorem dX4_addChair_51 : decode cX4_addChair 51 = .ok (.aload_n 0, 1) := by decide +kernel
theorem dX4_addChair_52 : decode cX4_addChair 52 = .ok (.iconst 3, 1) := by decide +kernel
theorem dX4_addChair_53 : decode cX4_addChair 53 = .ok (.invokevirtual 92, 3) := by decide +kernel
theorem dX4_addChair_56 : decode cX4_addChair 56 = .ok (.ireturn, 1) := by decide +kernel
theorem dX4_addChair_57 : decode cX4_addChair 57 = .ok (.aload_n 0, 1) := by decide +kernel
theorem dX4_addChair_58 : decode cX4_addChair 58 = .ok (.invokevirtual 99, 3) := by decide +kernel
theorem dX4_addChair_61 : decode cX4_addChair 61 = .ok (.aload_n 0, 1) := by decide +kernel
theorem dX4_addChair_62 : decode cX4_addChair 62 = .ok (.iload_n 1, 1) := by decide +kernel
theorem dX4_addChair_63 : decode cX4_addChair 63 = .ok (.iload_n 2, 1) := by decide +kernel
theorem dX4_addChair_64 : decode cX4_addChair 64 = .ok (.iload_n 3, 1) := by decide +kernel
theorem dX4_addChair_65 : decode cX4_addChair 65 = .ok (.iload 4, 2) := by decide +kernel
theorem dX4_addChair_67 : decode cX4_addChair 67 = .ok (.ifCond .eq 7, 3) := by decide +kernel
theorem dX4_addChair_70 : decode cX4_addChair 70 = .ok (.iconst 1, 1) := by decide +kernel
theorem dX4_addChair_71 : decode cX4_addChair 71 = .ok (.goto 4, 3) := by decide +kernel
theorem dX4_addChair_74 : decode cX4_addChair 74 = .ok (.iconst 0, 1) := by decide +kernel
theorem dX4_addChair_75 : decode cX4_addChair 75 = .ok (.invokevirtual 102, 3) := by decide +kernel
theorem dX4_addChair_78 : decode cX4_addChair 78 = .ok (.aload_n 0, 1) := by decide +kernel
theorem dX4_addChair_79 : decode cX4_addChair 79 = .ok (.aload_n 0, 1) := by decide +kernel
theorem dX4_addChair_80 : decode cX4_addChair 80 = .ok (.getfield 7, 3) := by decide +kernel
theorem dX4_addChair_83 : decode cX4_addChair 83 = .ok (.bipush 7, 2) := by decide +kernel
theorem dX4_addChair_85 : decode cX4_addChair 85 = .ok (.iaload, 1) := by decide +kernel
theorem dX4_addChair_86 : decode cX4_addChair 86 = .ok (.iconst 1, 1) := by decide +kernel
theorem dX4_addChair_87 : decode cX4_addChair 87 = .ok (.isub, 1) := by decide +kernel
theorem dX4_addChair_88 : decode cX4_addChair 88 = .ok (.invokevirtual 106, 3) := by decide +kernel
theorem dX4_addChair_91 : decode cX4_addChair 91 = .ok (.ireturn, 1) := by decide +kernel
theorem dX4_addsTeam_0 : decode cX4_addsTeam 0 = .ok (.aload_n 0, 1) := by decide +kernel
theorem dX4_addsTeam_1 : decode cX4_addsTeam 1 = .ok (.getfield 7, 3) := by decide +kernel
theorem dX4_addsTeam_4 : decode cX4_addsTeam 4 = .ok (.bipush 8, 2) := by decide +kernel
theorem dX4_addsTeam_6 : decode cX4_addsTeam 6 = .ok (.iaload, 1) := by decide +kernel
theorem dX4_addsTeam_7 : decode cX4_addsTeam 7 = .ok (.istore_n 3, 1) := by decide +kernel
theorem dX4_addsTeam_8 : decode cX4_addsTeam 8 = .ok (.iconst 0, 1) := by decide +kernel
theorem dX4_addsTeam_9 : decode cX4_addsTeam 9 = .ok (.istore 4, 2) := by decide +kernel
theorem dX4_addsTeam_11 : decode cX4_addsTeam 11 = .ok (.iload 4, 2) := by decide +kernel
theorem dX4_addsTeam_13 : decode cX4_addsTeam 13 = .ok (.bipush 8, 2) := by decide +kernel
theorem dX4_addsTeam_15 : decode cX4_addsTeam 15 = .ok (.if_icmp .ge 17, 3) := by decide +kernel
theorem dX4_addsTeam_18 : decode cX4_addsTeam 18 = .ok (.aload_n 0, 1) := by decide +kernel
theorem dX4_addsTeam_19 : decode cX4_addsTeam 19 = .ok (.iload_n 3, 1) := by decide +kernel
theorem dX4_addsTeam_20 : decode cX4_addsTeam 20 = .ok (.iload 4, 2) := by decide +kernel
theorem dX4_addsTeam_22 : decode cX4_addsTeam 22 = .ok (.iconst 0, 1) := by decide +kernel
theorem dX4_addsTeam_23 : decode cX4_addsTeam 23 = .ok (.invokevirtual 56, 3) := by decide +kernel
theorem dX4_addsTeam_26 : decode cX4_addsTeam 26 = .ok (.iinc 4 1, 3) := by decide +kernel
theorem dX4_addsTeam_29 : decode cX4_addsTeam 29 = .ok (.goto (-18), 3) := by decide +kernel
theorem dX4_addsTeam_32 : decode cX4_addsTeam 32 = .ok (.aload_n 0, 1) := by decide +kernel
theorem dX4_addsTeam_33 : decode cX4_addsTeam 33 = .ok (.iload_n 3, 1) := by decide +kernel
theorem dX4_addsTeam_34 : decode cX4_addsTeam 34 = .ok (.iconst 0, 1) := by decide +kernel
theorem dX4_addsTeam_35 : decode cX4_addsTeam 35 = .ok (.iload_n 1, 1) := by decide +kernel
theorem dX4_addsTeam_36 : decode cX4_addsTeam 36 = .ok (.invokevirtual 56, 3) := by decide +kernel
theorem dX4_addsTeam_39 : decode cX4_addsTeam 39 = .ok (.aload_n 0, 1) := by decide +kernel
theorem dX4_addsTeam_40 : decode cX4_addsTeam 40 = .ok (.iload_n 3, 1) := by decide +kernel
theorem dX4_addsTeam_41 : decode cX4_addsTeam 41 = .ok (.iconst 1, 1) := by decide +kernel
theorem dX4_addsTeam_42 : decode cX4_addsTeam 42 = .ok (.iload_n 2, 1) := by decide +kernel
theorem dX4_addsTeam_43 : decode cX4_addsTeam 43 = .ok (.invokevirtual 56, 3) := by decide +kernel
theorem dX4_addsTeam_46 : decode cX4_addsTeam 46 = .ok (.aload_n 0, 1) := by decide +kernel
theorem dX4_addsTeam_47 : decode cX4_addsTeam 47 = .ok (.iload_n 3, 1) := by decide +kernel
theorem dX4_addsTeam_48 : decode cX4_addsTeam 48 = .ok (.iconst 4, 1) := by decide +kernel
theorem dX4_addsTeam_49 : decode cX4_addsTeam 49 = .ok (.iconst (-1), 1) := by decide +kernel
theorem dX4_addsTeam_50 : decode cX4_addsTeam 50 = .ok (.invokevirtual 56, 3) := by decide +kernel
theorem dX4_addsTeam_53 : decode cX4_addsTeam 53 = .ok (.aload_n 0, 1) := by decide +kernel
theorem dX4_addsTeam_54 : decode cX4_addsTeam 54 = .ok (.getfield 7, 3) := by decide +kernel
theorem dX4_addsTeam_57 : decode cX4_addsTeam 57 = .ok (.bipush 8, 2) := by decide +kernel
theorem dX4_addsTeam_59 : decode cX4_addsTeam 59 = .ok (.dup2, 1) := by decide +kernel
theorem dX4_addsTeam_60 : decode cX4_addsTeam 60 = .ok (.iaload, 1) := by decide +kernel
theorem dX4_addsTeam_61 : decode cX4_addsTeam 61 = .ok (.iconst 1, 1) := by decide +kernel
theorem dX4_addsTeam_62 : decode cX4_addsTeam 62 = .ok (.iadd, 1) := by decide +kernel
theorem dX4_addsTeam_63 : decode cX4_addsTeam 63 = .ok (.iastore, 1) := by decide +kernel
theorem dX4_addsTeam_64 : decode cX4_addsTeam 64 = .ok (.return_, 1) := by decide +kernel
theorem dX4_addTeam_0 : decode cX4_addTeam 0 = .ok (.aload_n 0, 1) := by decide +kernel
theorem dX4_addTeam_1 : decode cX4_addTeam 1 = .ok (.iload_n 1, 1) := by decide +kernel
theorem dX4_addTeam_2 : decode cX4_addTeam 2 = .ok (.invokevirtual 88, 3) := by decide +kernel
theorem dX4_addTeam_5 : decode cX4_addTeam 5 = .ok (.ifCond .ne 9, 3) := by decide +kernel
theorem dX4_addTeam_8 : decode cX4_addTeam 8 = .ok (.aload_n 0, 1) := by decide +kernel
theorem dX4_addTeam_9 : decode cX4_addTeam 9 = .ok (.iconst 1, 1) := by decide +kernel
theorem dX4_addTeam_10 : decode cX4_addTeam 10 = .ok (.invokevirtual 92, 3) := by decide +kernel
theorem dX4_addTeam_13 : decode cX4_addTeam 13 = .ok (.ireturn, 1) := by decide +kernel
theorem dX4_addTeam_14 : decode cX4_addTeam 14 = .ok (.iload_n 2, 1) := by decide +kernel
theorem dX4_addTeam_15 : decode cX4_addTeam 15 = .ok (.iconst 0, 1) := by decide +kernel
theorem dX4_addTeam_16 : decode cX4_addTeam 16 = .ok (.bipush 30, 2) := by decide +kernel
theorem dX4_addTeam_18 : decode cX4_addTeam 18 = .ok (.invokestatic 95, 3) := by decide +kernel
theorem dX4_addTeam_21 : decode cX4_addTeam 21 = .ok (.ifCond .ne 9, 3) := by decide +kernel
theorem dX4_addTeam_24 : decode cX4_addTeam 24 = .ok (.aload_n 0, 1) := by decide +kernel
theorem dX4_addTeam_25 : decode cX4_addTeam 25 = .ok (.iconst 2, 1) := by decide +kernel
theorem dX4_addTeam_26 : decode cX4_addTeam 26 = .ok (.invokevirtual 92, 3) := by decide +kernel
theorem dX4_addTeam_29 : decode cX4_addTeam 29 = .ok (.ireturn, 1) := by decide +kernel
theorem dX4_addTeam_30 : decode cX4_addTeam 30 = .ok (.aload_n 0, 1) := by decide +kernel
theorem dX4_addTeam_31 : decode cX4_addTeam 31 = .ok (.getfield 7, 3) := by decide +kernel
theorem dX4_addTeam_34 : decode cX4_addTeam 34 = .ok (.bipush 8, 2) := by decide +kernel
theorem dX4_addTeam_36 : decode cX4_addTeam 36 = .ok (.iaload, 1) := by decide +kernel
theorem dX4_addTeam_37 : decode cX4_addTeam 37 = .ok (.iconst 4, 1) := by decide +kernel
theorem dX4_addTeam_38 : decode cX4_addTeam 38 = .ok (.if_icmp .ne 9, 3) := by decide +kernel
theorem dX4_addTeam_41 : decode cX4_addTeam 41 = .ok (.aload_n 0, 1) := by decide +kernel
theorem dX4_addTeam_42 : decode cX4_addTeam 42 = .ok (.iconst 3, 1) := by decide +kernel
theorem dX4_addTeam_43 : decode cX4_addTeam 43 = .ok (.invokevirtual 92, 3) := by decide +kernel
theorem dX4_addTeam_46 : decode cX4_addTeam 46 = .ok (.ireturn, 1) := by decide +kernel
theorem dX4_addTeam_47 : decode cX4_addTeam 47 = .ok (.aload_n 0, 1) := by decide +kernel
theorem dX4_addTeam_48 : decode cX4_addTeam 48 = .ok (.invokevirtual 99, 3) := by decide +kernel
theorem dX4_addTeam_51 : decode cX4_addTeam 51 = .ok (.aload_n 0, 1) := by decide +kernel
theorem dX4_addTeam_52 : decode cX4_addTeam 52 = .ok (.iload_n 1, 1) := by decide +kernel
theorem dX4_addTeam_53 : decode cX4_addTeam 53 = .ok (.iload_n 2, 1) := by decide +kernel
theorem dX4_addTeam_54 : decode cX4_addTeam 54 = .ok (.invokevirtual 109, 3) := by decide +kernel
theorem dX4_addTeam_57 : decode cX4_addTeam 57 = .ok (.aload_n 0, 1) := by decide +kernel
theorem dX4_addTeam_58 : decode cX4_addTeam 58 = .ok (.aload_n 0, 1) := by decide +kernel
theorem dX4_addTeam_59 : decode cX4_addTeam 59 = .ok (.getfield 7, 3) := by decide +kernel
theorem dX4_addTeam_62 : decode cX4_addTeam 62 = .ok (.bipush 8, 2) := by decide +kernel
theorem dX4_addTeam_64 : decode cX4_addTeam 64 = .ok (.iaload, 1) := by decide +kernel
theorem dX4_addTeam_65 : decode cX4_addTeam 65 = .ok (.iconst 1, 1) := by decide +kernel
theorem dX4_addTeam_66 : decode cX4_addTeam 66 = .ok (.isub, 1) := by decide +kernel
theorem dX4_addTeam_67 : decode cX4_addTeam 67 = .ok (.invokevirtual 106, 3) := by decide +kernel
theorem dX4_addTeam_70 : decode cX4_addTeam 70 = .ok (.ireturn, 1) := by decide +kernel
theorem dX4_setWay_0 : decode cX4_setWay 0 = .ok (.iload_n 1, 1) := by decide +kernel
theorem dX4_setWay_1 : decode cX4_setWay 1 = .ok (.iconst 0, 1) := by decide +kernel
theorem dX4_setWay_2 : decode cX4_setWay 2 = .ok (.aload_n 0, 1) := by decide +kernel
theorem dX4_setWay_3 : decode cX4_setWay 3 = .ok (.getfield 7, 3) := by decide +kernel
theorem dX4_setWay_6 : decode cX4_setWay 6 = .ok (.iconst 0, 1) := by decide +kernel
theorem dX4_setWay_7 : decode cX4_setWay 7 = .ok (.iaload, 1) := by decide +kernel
theorem dX4_setWay_8 : decode cX4_setWay 8 = .ok (.iconst 2, 1) := by decide +kernel
theorem dX4_setWay_9 : decode cX4_setWay 9 = .ok (.isub, 1) := by decide +kernel
theorem dX4_setWay_10 : decode cX4_setWay 10 = .ok (.invokestatic 95, 3) := by decide +kernel
theorem dX4_setWay_13 : decode cX4_setWay 13 = .ok (.ifCond .ne 9, 3) := by decide +kernel
theorem dX4_setWay_16 : decode cX4_setWay 16 = .ok (.aload_n 0, 1) := by decide +kernel
theorem dX4_setWay_17 : decode cX4_setWay 17 = .ok (.iconst 1, 1) := by decide +kernel
theorem dX4_setWay_18 : decode cX4_setWay 18 = .ok (.invokevirtual 92, 3) := by decide +kernel
theorem dX4_setWay_21 : decode cX4_setWay 21 = .ok (.ireturn, 1) := by decide +kernel
theorem dX4_setWay_22 : decode cX4_setWay 22 = .ok (.iload_n 2, 1) := by decide +kernel
theorem dX4_setWay_23 : decode cX4_setWay 23 = .ok (.iconst 1, 1) := by decide +kernel
theorem dX4_setWay_24 : decode cX4_setWay 24 = .ok (.bipush 20, 2) := by decide +kernel
theorem dX4_setWay_26 : decode cX4_setWay 26 = .ok (.invokestatic 95, 3) := by decide +kernel
theorem dX4_setWay_29 : decode cX4_setWay 29 = .ok (.ifCond .ne 9, 3) := by decide +kernel
theorem dX4_setWay_32 : decode cX4_setWay 32 = .ok (.aload_n 0, 1) := by decide +kernel
theorem dX4_setWay_33 : decode cX4_setWay 33 = .ok (.iconst 2, 1) := by decide +kernel
theorem dX4_setWay_34 : decode cX4_setWay 34 = .ok (.invokevirtual 92, 3) := by decide +kernel
theorem dX4_setWay_37 : decode cX4_setWay 37 = .ok (.ireturn, 1) := by decide +kernel
theorem dX4_setWay_38 : decode cX4_setWay 38 = .ok (.aload_n 0, 1) := by decide +kernel
theorem dX4_setWay_39 : decode cX4_setWay 39 = .ok (.invokevirtual 99, 3) := by decide +kernel
theorem dX4_setWay_42 : decode cX4_setWay 42 = .ok (.aload_n 0, 1) := by decide +kernel
theorem dX4_setWay_43 : decode cX4_setWay 43 = .ok (.getfield 7, 3) := by decide +kernel
theorem dX4_setWay_46 : decode cX4_setWay 46 = .ok (.iconst 1, 1) := by decide +kernel
theorem dX4_setWay_47 : decode cX4_setWay 47 = .ok (.iload_n 1, 1) := by decide +kernel
theorem dX4_setWay_48 : decode cX4_setWay 48 = .ok (.iadd, 1) := by decide +kernel
theorem dX4_setWay_49 : decode cX4_setWay 49 = .ok (.iaload, 1) := by decide +kernel
theorem dX4_setWay_50 : decode cX4_setWay 50 = .ok (.istore_n 3, 1) := by decide +kernel
theorem dX4_setWay_51 : decode cX4_setWay 51 = .ok (.aload_n 0, 1) := by decide +kernel
theorem dX4_setWay_52 : decode cX4_setWay 52 = .ok (.getfield 7, 3) := by decide +kernel
theorem dX4_setWay_55 : decode cX4_setWay 55 = .ok (.iconst 1, 1) := by decide +kernel
theorem dX4_setWay_56 : decode cX4_setWay 56 = .ok (.iload_n 1, 1) := by decide +kernel
theorem dX4_setWay_57 : decode cX4_setWay 57 = .ok (.iadd, 1) := by decide +kernel
theorem dX4_setWay_58 : decode cX4_setWay 58 = .ok (.iload_n 2, 1) := by decide +kernel
theorem dX4_setWay_59 : decode cX4_setWay 59 = .ok (.iastore, 1) := by decide +kernel
theorem dX4_setWay_60 : decode cX4_setWay 60 = .ok (.aload_n 0, 1) := by decide +kernel
theorem dX4_setWay_61 : decode cX4_setWay 61 = .ok (.iload_n 3, 1) := by decide +kernel
theorem dX4_setWay_62 : decode cX4_setWay 62 = .ok (.invokevirtual 106, 3) := by decide +kernel
theorem dX4_setWay_65 : decode cX4_setWay 65 = .ok (.ireturn, 1) := by decide +kernel
theorem dX4_setCold_0 : decode cX4_setCold 0 = .ok (.aload_n 0, 1) := by decide +kernel
theorem dX4_setCold_1 : decode cX4_setCold 1 = .ok (.iload_n 1, 1) := by decide +kernel
theorem dX4_setCold_2 : decode cX4_setCold 2 = .ok (.invokevirtual 113, 3) := by decide +kernel
theorem dX4_setCold_5 : decode cX4_setCold 5 = .ok (.ifCond .ne 9, 3) := by decide +kernel
theorem dX4_setCold_8 : decode cX4_setCold 8 = .ok (.aload_n 0, 1) := by decide +kernel
theorem dX4_setCold_9 : decode cX4_setCold 9 = .ok (.iconst 1, 1) := by decide +kernel
theorem dX4_setCold_10 : decode cX4_setCold 10 = .ok (.invokevirtual 92, 3) := by decide +kernel
theorem dX4_setCold_13 : decode cX4_setCold 13 = .ok (.ireturn, 1) := by decide +kernel
theorem dX4_setCold_14 : decode cX4_setCold 14 = .ok (.iload_n 2, 1) := by decide +kernel
theorem dX4_setCold_15 : decode cX4_setCold 15 = .ok (.iconst 0, 1) := by decide +kernel
theorem dX4_setCold_16 : decode cX4_setCold 16 = .ok (.bipush 20, 2) := by decide +kernel
theorem dX4_setCold_18 : decode cX4_setCold 18 = .ok (.invokestatic 95, 3) := by decide +kernel
theorem dX4_setCold_21 : decode cX4_setCold 21 = .ok (.ifCond .ne 9, 3) := by decide +kernel
theorem dX4_setCold_24 : decode cX4_setCold 24 = .ok (.aload_n 0, 1) := by decide +kernel
theorem dX4_setCold_25 : decode cX4_setCold 25 = .ok (.iconst 2, 1) := by decide +kernel
theorem dX4_setCold_26 : decode cX4_setCold 26 = .ok (.invokevirtual 92, 3) := by decide +kernel
theorem dX4_setCold_29 : decode cX4_setCold 29 = .ok (.ireturn, 1) := by decide +kernel
theorem dX4_setCold_30 : decode cX4_setCold 30 = .ok (.aload_n 0, 1) := by decide +kernel
theorem dX4_setCold_31 : decode cX4_setCold 31 = .ok (.iload_n 1, 1) := by decide +kernel
theorem dX4_setCold_32 : decode cX4_setCold 32 = .ok (.iconst 4, 1) := by decide +kernel
theorem dX4_setCold_33 : decode cX4_setCold 33 = .ok (.invokevirtual 43, 3) := by decide +kernel
theorem dX4_setCold_36 : decode cX4_setCold 36 = .ok (.iconst 2, 1) := by decide +kernel
theorem dX4_setCold_37 : decode cX4_setCold 37 = .ok (.if_icmp .ne 9, 3) := by decide +kernel
theorem dX4_setCold_40 : decode cX4_setCold 40 = .ok (.aload_n 0, 1) := by decide +kernel
theorem dX4_setCold_41 : decode cX4_setCold 41 = .ok (.iconst 3, 1) := by decide +kernel
theorem dX4_setCold_42 : decode cX4_setCold 42 = .ok (.invokevirtual 92, 3) := by decide +kernel
theorem dX4_setCold_45 : decode cX4_setCold 45 = .ok (.ireturn, 1) := by decide +kernel
theorem dX4_setCold_46 : decode cX4_setCold 46 = .ok (.aload_n 0, 1) := by decide +kernel
theorem dX4_setCold_47 : decode cX4_setCold 47 = .ok (.invokevirtual 99, 3) := by decide +kernel
theorem dX4_setCold_50 : decode cX4_setCold 50 = .ok (.aload_n 0, 1) := by decide +kernel
theorem dX4_setCold_51 : decode cX4_setCold 51 = .ok (.iload_n 1, 1) := by decide +kernel
theorem dX4_setCold_52 : decode cX4_setCold 52 = .ok (.iconst 2, 1) := by decide +kernel
theorem dX4_setCold_53 : decode cX4_setCold 53 = .ok (.invokevirtual 43, 3) := by decide +kernel
theorem dX4_setCold_56 : decode cX4_setCold 56 = .ok (.istore_n 3, 1) := by decide +kernel
theorem dX4_setCold_57 : decode cX4_setCold 57 = .ok (.aload_n 0, 1) := by decide +kernel
theorem dX4_setCold_58 : decode cX4_setCold 58 = .ok (.iload_n 1, 1) := by decide +kernel
theorem dX4_setCold_59 : decode cX4_setCold 59 = .ok (.iconst 2, 1) := by decide +kernel
theorem dX4_setCold_60 : decode cX4_setCold 60 = .ok (.iload_n 2, 1) := by decide +kernel
theorem dX4_setCold_61 : decode cX4_setCold 61 = .ok (.invokevirtual 60, 3) := by decide +kernel
theorem dX4_setCold_64 : decode cX4_setCold 64 = .ok (.aload_n 0, 1) := by decide +kernel
theorem dX4_setCold_65 : decode cX4_setCold 65 = .ok (.iload_n 3, 1) := by decide +kernel
theorem dX4_setCold_66 : decode cX4_setCold 66 = .ok (.invokevirtual 106, 3) := by decide +kernel
theorem dX4_setCold_69 : decode cX4_setCold 69 = .ok (.ireturn, 1) := by decide +kernel
theorem dX4_callOff_0 : decode cX4_callOff 0 = .ok (.aload_n 0, 1) := by decide +kernel
theorem dX4_callOff_1 : decode cX4_callOff 1 = .ok (.iload_n 1, 1) := by decide +kernel
theorem dX4_callOff_2 : decode cX4_callOff 2 = .ok (.invokevirtual 116, 3) := by decide +kernel
theorem dX4_callOff_5 : decode cX4_callOff 5 = .ok (.ifCond .ne 9, 3) := by decide +kernel
theorem dX4_callOff_8 : decode cX4_callOff 8 = .ok (.aload_n 0, 1) := by decide +kernel
theorem dX4_callOff_9 : decode cX4_callOff 9 = .ok (.iconst 1, 1) := by decide +kernel
theorem dX4_callOff_10 : decode cX4_callOff 10 = .ok (.invokevirtual 92, 3) := by decide +kernel
theorem dX4_callOff_13 : decode cX4_callOff 13 = .ok (.ireturn, 1) := by decide +kernel
theorem dX4_callOff_14 : decode cX4_callOff 14 = .ok (.aload_n 0, 1) := by decide +kernel
theorem dX4_callOff_15 : decode cX4_callOff 15 = .ok (.invokevirtual 99, 3) := by decide +kernel
theorem dX4_callOff_18 : decode cX4_callOff 18 = .ok (.aload_n 0, 1) := by decide +kernel
theorem dX4_callOff_19 : decode cX4_callOff 19 = .ok (.iload_n 1, 1) := by decide +kernel
theorem dX4_callOff_20 : decode cX4_callOff 20 = .ok (.iconst 4, 1) := by decide +kernel
theorem dX4_callOff_21 : decode cX4_callOff 21 = .ok (.invokevirtual 47, 3) := by decide +kernel
theorem dX4_callOff_24 : decode cX4_callOff 24 = .ok (.istore_n 2, 1) := by decide +kernel
theorem dX4_callOff_25 : decode cX4_callOff 25 = .ok (.iload_n 2, 1) := by decide +kernel
theorem dX4_callOff_26 : decode cX4_callOff 26 = .ok (.iconst (-1), 1) := by decide +kernel
theorem dX4_callOff_27 : decode cX4_callOff 27 = .ok (.if_icmp .eq 17, 3) := by decide +kernel
theorem dX4_callOff_30 : decode cX4_callOff 30 = .ok (.aload_n 0, 1) := by decide +kernel
theorem dX4_callOff_31 : decode cX4_callOff 31 = .ok (.iload_n 2, 1) := by decide +kernel
theorem dX4_callOff_32 : decode cX4_callOff 32 = .ok (.iconst 4, 1) := by decide +kernel
theorem dX4_callOff_33 : decode cX4_callOff 33 = .ok (.iconst 0, 1) := by decide +kernel
theorem dX4_callOff_34 : decode cX4_callOff 34 = .ok (.invokevirtual 60, 3) := by decide +kernel
theorem dX4_callOff_37 : decode cX4_callOff 37 = .ok (.aload_n 0, 1) := by decide +kernel
theorem dX4_callOff_38 : decode cX4_callOff 38 = .ok (.iload_n 2, 1) := by decide +kernel
theorem dX4_callOff_39 : decode cX4_callOff 39 = .ok (.iconst 5, 1) := by decide +kernel
theorem dX4_callOff_40 : decode cX4_callOff 40 = .ok (.iconst (-1), 1) := by decide +kernel
theorem dX4_callOff_41 : decode cX4_callOff 41 = .ok (.invokevirtual 60, 3) := by decide +kernel
theorem dX4_callOff_44 : decode cX4_callOff 44 = .ok (.aload_n 0, 1) := by decide +kernel
theorem dX4_callOff_45 : decode cX4_callOff 45 = .ok (.iload_n 1, 1) := by decide +kernel
theorem dX4_callOff_46 : decode cX4_callOff 46 = .ok (.iconst 4, 1) := by decide +kernel
theorem dX4_callOff_47 : decode cX4_callOff 47 = .ok (.iconst (-1), 1) := by decide +kernel
theorem dX4_callOff_48 : decode cX4_callOff 48 = .ok (.invokevirtual 56, 3) := by decide +kernel
theorem dX4_callOff_51 : decode cX4_callOff 51 = .ok (.aload_n 0, 1) := by decide +kernel
theorem dX4_callOff_52 : decode cX4_callOff 52 = .ok (.iload_n 1, 1) := by decide +kernel
theorem dX4_callOff_53 : decode cX4_callOff 53 = .ok (.iconst 0, 1) := by decide +kernel
theorem dX4_callOff_54 : decode cX4_callOff 54 = .ok (.iconst 0, 1) := by decide +kernel
theorem dX4_callOff_55 : decode cX4_callOff 55 = .ok (.invokevirtual 63, 3) := by decide +kernel
theorem dX4_callOff_58 : decode cX4_callOff 58 = .ok (.aload_n 0, 1) := by decide +kernel
theorem dX4_callOff_59 : decode cX4_callOff 59 = .ok (.iload_n 2, 1) := by decide +kernel
theorem dX4_callOff_60 : decode cX4_callOff 60 = .ok (.invokevirtual 106, 3) := by decide +kernel
theorem dX4_callOff_63 : decode cX4_callOff 63 = .ok (.ireturn, 1) := by decide +kernel
theorem dX4_pass_0 : decode cX4_pass 0 = .ok (.iload_n 1, 1) := by decide +kernel
theorem dX4_pass_1 : decode cX4_pass 1 = .ok (.iconst 1, 1) := by decide +kernel
theorem dX4_pass_2 : decode cX4_pass 2 = .ok (.sipush 500, 3) := by decide +kernel
theorem dX4_pass_5 : decode cX4_pass 5 = .ok (.invokestatic 95, 3) := by decide +kernel
theorem dX4_pass_8 : decode cX4_pass 8 = .ok (.ifCond .ne 9, 3) := by decide +kernel
theorem dX4_pass_11 : decode cX4_pass 11 = .ok (.aload_n 0, 1) := by decide +kernel
theorem dX4_pass_12 : decode cX4_pass 12 = .ok (.iconst 1, 1) := by decide +kernel
theorem dX4_pass_13 : decode cX4_pass 13 = .ok (.invokevirtual 92, 3) := by decide +kernel
theorem dX4_pass_16 : decode cX4_pass 16 = .ok (.ireturn, 1) := by decide +kernel
theorem dX4_pass_17 : decode cX4_pass 17 = .ok (.aload_n 0, 1) := by decide +kernel
theorem dX4_pass_18 : decode cX4_pass 18 = .ok (.getfield 7, 3) := by decide +kernel
theorem dX4_pass_21 : decode cX4_pass 21 = .ok (.bipush 9, 2) := by decide +kernel
theorem dX4_pass_23 : decode cX4_pass 23 = .ok (.iaload, 1) := by decide +kernel
theorem dX4_pass_24 : decode cX4_pass 24 = .ok (.iload_n 1, 1) := by decide +kernel
theorem dX4_pass_25 : decode cX4_pass 25 = .ok (.iadd, 1) := by decide +kernel
theorem dX4_pass_26 : decode cX4_pass 26 = .ok (.sipush 5000, 3) := by decide +kernel
theorem dX4_pass_29 : decode cX4_pass 29 = .ok (.if_icmp .le 9, 3) := by decide +kernel
theorem dX4_pass_32 : decode cX4_pass 32 = .ok (.aload_n 0, 1) := by decide +kernel
theorem dX4_pass_33 : decode cX4_pass 33 = .ok (.iconst 2, 1) := by decide +kernel
theorem dX4_pass_34 : decode cX4_pass 34 = .ok (.invokevirtual 92, 3) := by decide +kernel
theorem dX4_pass_37 : decode cX4_pass 37 = .ok (.ireturn, 1) := by decide +kernel
theorem dX4_pass_38 : decode cX4_pass 38 = .ok (.aload_n 0, 1) := by decide +kernel
theorem dX4_pass_39 : decode cX4_pass 39 = .ok (.invokevirtual 99, 3) := by decide +kernel
theorem dX4_pass_42 : decode cX4_pass 42 = .ok (.aload_n 0, 1) := by decide +kernel
theorem dX4_pass_43 : decode cX4_pass 43 = .ok (.getfield 7, 3) := by decide +kernel
theorem dX4_pass_46 : decode cX4_pass 46 = .ok (.bipush 12, 2) := by decide +kernel
theorem dX4_pass_48 : decode cX4_pass 48 = .ok (.iaload, 1) := by decide +kernel
theorem dX4_pass_49 : decode cX4_pass 49 = .ok (.istore_n 2, 1) := by decide +kernel
theorem dX4_pass_50 : decode cX4_pass 50 = .ok (.iconst 0, 1) := by decide +kernel
theorem dX4_pass_51 : decode cX4_pass 51 = .ok (.istore_n 3, 1) := by decide +kernel
theorem dX4_pass_52 : decode cX4_pass 52 = .ok (.iload_n 3, 1) := by decide +kernel
theorem dX4_pass_53 : decode cX4_pass 53 = .ok (.iload_n 1, 1) := by decide +kernel
theorem dX4_pass_54 : decode cX4_pass 54 = .ok (.if_icmp .ge 13, 3) := by decide +kernel
theorem dX4_pass_57 : decode cX4_pass 57 = .ok (.aload_n 0, 1) := by decide +kernel
theorem dX4_pass_58 : decode cX4_pass 58 = .ok (.invokevirtual 85, 3) := by decide +kernel
theorem dX4_pass_61 : decode cX4_pass 61 = .ok (.iinc 3 1, 3) := by decide +kernel
theorem dX4_pass_64 : decode cX4_pass 64 = .ok (.goto (-12), 3) := by decide +kernel
theorem dX4_pass_67 : decode cX4_pass 67 = .ok (.aload_n 0, 1) := by decide +kernel
theorem dX4_pass_68 : decode cX4_pass 68 = .ok (.aload_n 0, 1) := by decide +kernel
theorem dX4_pass_69 : decode cX4_pass 69 = .ok (.getfield 7, 3) := by decide +kernel
theorem dX4_pass_72 : decode cX4_pass 72 = .ok (.bipush 12, 2) := by decide +kernel
theorem dX4_pass_74 : decode cX4_pass 74 = .ok (.iaload, 1) := by decide +kernel
theorem dX4_pass_75 : decode cX4_pass 75 = .ok (.iload_n 2, 1) := by decide +kernel
theorem dX4_pass_76 : decode cX4_pass 76 = .ok (.isub, 1) := by decide +kernel
theorem dX4_pass_77 : decode cX4_pass 77 = .ok (.invokevirtual 106, 3) := by decide +kernel
theorem dX4_pass_80 : decode cX4_pass 80 = .ok (.ireturn, 1) := by decide +kernel
theorem dX4_tell_0 : decode cX4_tell 0 = .ok (.aload_n 0, 1) := by decide +kernel
theorem dX4_tell_1 : decode cX4_tell 1 = .ok (.invokevirtual 99, 3) := by decide +kernel
theorem dX4_tell_4 : decode cX4_tell 4 = .ok (.aload_n 0, 1) := by decide +kernel
theorem dX4_tell_5 : decode cX4_tell 5 = .ok (.invokevirtual 119, 3) := by decide +kernel
theorem dX4_tell_8 : decode cX4_tell 8 = .ok (.iconst 0, 1) := by decide +kernel
theorem dX4_tell_9 : decode cX4_tell 9 = .ok (.istore_n 1, 1) := by decide +kernel
theorem dX4_tell_10 : decode cX4_tell 10 = .ok (.iconst 0, 1) := by decide +kernel
theorem dX4_tell_11 : decode cX4_tell 11 = .ok (.istore_n 2, 1) := by decide +kernel
theorem dX4_tell_12 : decode cX4_tell 12 = .ok (.iload_n 2, 1) := by decide +kernel
theorem dX4_tell_13 : decode cX4_tell 13 = .ok (.aload_n 0, 1) := by decide +kernel
theorem dX4_tell_14 : decode cX4_tell 14 = .ok (.getfield 7, 3) := by decide +kernel
theorem dX4_tell_17 : decode cX4_tell 17 = .ok (.bipush 7, 2) := by decide +kernel
theorem dX4_tell_19 : decode cX4_tell 19 = .ok (.iaload, 1) := by decide +kernel
theorem dX4_tell_20 : decode cX4_tell 20 = .ok (.if_icmp .ge 50, 3) := by decide +kernel
theorem dX4_tell_23 : decode cX4_tell 23 = .ok (.aload_n 0, 1) := by decide +kernel
theorem dX4_tell_24 : decode cX4_tell 24 = .ok (.iload_n 2, 1) := by decide +kernel
theorem dX4_tell_25 : decode cX4_tell 25 = .ok (.iconst 4, 1) := by decide +kernel
theorem dX4_tell_26 : decode cX4_tell 26 = .ok (.invokevirtual 43, 3) := by decide +kernel
theorem dX4_tell_29 : decode cX4_tell 29 = .ok (.iconst 2, 1) := by decide +kernel
theorem dX4_tell_30 : decode cX4_tell 30 = .ok (.if_icmp .ge 34, 3) := by decide +kernel
theorem dX4_tell_33 : decode cX4_tell 33 = .ok (.aload_n 0, 1) := by decide +kernel
theorem dX4_tell_34 : decode cX4_tell 34 = .ok (.iload_n 2, 1) := by decide +kernel
theorem dX4_tell_35 : decode cX4_tell 35 = .ok (.bipush 7, 2) := by decide +kernel
theorem dX4_tell_37 : decode cX4_tell 37 = .ok (.aload_n 0, 1) := by decide +kernel
theorem dX4_tell_38 : decode cX4_tell 38 = .ok (.getfield 25, 3) := by decide +kernel
theorem dX4_tell_41 : decode cX4_tell 41 = .ok (.iload_n 2, 1) := by decide +kernel
theorem dX4_tell_42 : decode cX4_tell 42 = .ok (.iaload, 1) := by decide +kernel
theorem dX4_tell_43 : decode cX4_tell 43 = .ok (.invokevirtual 60, 3) := by decide +kernel
theorem dX4_tell_46 : decode cX4_tell 46 = .ok (.iload_n 1, 1) := by decide +kernel
theorem dX4_tell_47 : decode cX4_tell 47 = .ok (.aload_n 0, 1) := by decide +kernel
theorem dX4_tell_48 : decode cX4_tell 48 = .ok (.getfield 25, 3) := by decide +kernel
theorem dX4_tell_51 : decode cX4_tell 51 = .ok (.iload_n 2, 1) := by decide +kernel
theorem dX4_tell_52 : decode cX4_tell 52 = .ok (.iaload, 1) := by decide +kernel
theorem dX4_tell_53 : decode cX4_tell 53 = .ok (.iconst (-1), 1) := by decide +kernel
theorem dX4_tell_54 : decode cX4_tell 54 = .ok (.if_icmp .ne 7, 3) := by decide +kernel
theorem dX4_tell_57 : decode cX4_tell 57 = .ok (.iconst 0, 1) := by decide +kernel
theorem dX4_tell_58 : decode cX4_tell 58 = .ok (.goto 4, 3) := by decide +kernel
theorem dX4_tell_61 : decode cX4_tell 61 = .ok (.iconst 1, 1) := by decide +kernel
theorem dX4_tell_62 : decode cX4_tell 62 = .ok (.iadd, 1) := by decide +kernel
theorem dX4_tell_63 : decode cX4_tell 63 = .ok (.istore_n 1, 1) := by decide +kernel
theorem dX4_tell_64 : decode cX4_tell 64 = .ok (.iinc 2 1, 3) := by decide +kernel
theorem dX4_tell_67 : decode cX4_tell 67 = .ok (.goto (-55), 3) := by decide +kernel
theorem dX4_tell_70 : decode cX4_tell 70 = .ok (.aload_n 0, 1) := by decide +kernel
theorem dX4_tell_71 : decode cX4_tell 71 = .ok (.iload_n 1, 1) := by decide +kernel
theorem dX4_tell_72 : decode cX4_tell 72 = .ok (.invokevirtual 106, 3) := by decide +kernel
theorem dX4_tell_75 : decode cX4_tell 75 = .ok (.ireturn, 1) := by decide +kernel
theorem dX4_chairOf_0 : decode cX4_chairOf 0 = .ok (.iload_n 2, 1) := by decide +kernel
theorem dX4_chairOf_1 : decode cX4_chairOf 1 = .ok (.iconst 4, 1) := by decide +kernel
theorem dX4_chairOf_2 : decode cX4_chairOf 2 = .ok (.if_icmp .ge 12, 3) := by decide +kernel
theorem dX4_chairOf_5 : decode cX4_chairOf 5 = .ok (.aload_n 0, 1) := by decide +kernel
theorem dX4_chairOf_6 : decode cX4_chairOf 6 = .ok (.iload_n 1, 1) := by decide +kernel
theorem dX4_chairOf_7 : decode cX4_chairOf 7 = .ok (.iload_n 2, 1) := by decide +kernel
theorem dX4_chairOf_8 : decode cX4_chairOf 8 = .ok (.invokevirtual 43, 3) := by decide +kernel
theorem dX4_chairOf_11 : decode cX4_chairOf 11 = .ok (.goto 24, 3) := by decide +kernel
theorem dX4_chairOf_14 : decode cX4_chairOf 14 = .ok (.iload_n 2, 1) := by decide +kernel
theorem dX4_chairOf_15 : decode cX4_chairOf 15 = .ok (.iconst 4, 1) := by decide +kernel
theorem dX4_chairOf_16 : decode cX4_chairOf 16 = .ok (.if_icmp .ne 11, 3) := by decide +kernel
theorem dX4_chairOf_19 : decode cX4_chairOf 19 = .ok (.aload_n 0, 1) := by decide +kernel
theorem dX4_chairOf_20 : decode cX4_chairOf 20 = .ok (.iload_n 1, 1) := by decide +kernel
theorem dX4_chairOf_21 : decode cX4_chairOf 21 = .ok (.invokevirtual 50, 3) := by decide +kernel
theorem dX4_chairOf_24 : decode cX4_chairOf 24 = .ok (.goto 11, 3) := by decide +kernel
theorem dX4_chairOf_27 : decode cX4_chairOf 27 = .ok (.aload_n 0, 1) := by decide +kernel
theorem dX4_chairOf_28 : decode cX4_chairOf 28 = .ok (.iload_n 1, 1) := by decide +kernel
theorem dX4_chairOf_29 : decode cX4_chairOf 29 = .ok (.iload_n 2, 1) := by decide +kernel
theorem dX4_chairOf_30 : decode cX4_chairOf 30 = .ok (.iconst 1, 1) := by decide +kernel
theorem dX4_chairOf_31 : decode cX4_chairOf 31 = .ok (.isub, 1) := by decide +kernel
theorem dX4_chairOf_32 : decode cX4_chairOf 32 = .ok (.invokevirtual 43, 3) := by decide +kernel
theorem dX4_chairOf_35 : decode cX4_chairOf 35 = .ok (.ireturn, 1) := by decide +kernel
theorem dX4_chair_0 : decode cX4_chair 0 = .ok (.aload_n 0, 1) := by decide +kernel
theorem dX4_chair_1 : decode cX4_chair 1 = .ok (.iload_n 1, 1) := by decide +kernel
theorem dX4_chair_2 : decode cX4_chair 2 = .ok (.invokevirtual 113, 3) := by decide +kernel
theorem dX4_chair_5 : decode cX4_chair 5 = .ok (.ifCond .ne 9, 3) := by decide +kernel
theorem dX4_chair_8 : decode cX4_chair 8 = .ok (.aload_n 0, 1) := by decide +kernel
theorem dX4_chair_9 : decode cX4_chair 9 = .ok (.iconst 1, 1) := by decide +kernel
theorem dX4_chair_10 : decode cX4_chair 10 = .ok (.invokevirtual 92, 3) := by decide +kernel
theorem dX4_chair_13 : decode cX4_chair 13 = .ok (.ireturn, 1) := by decide +kernel
theorem dX4_chair_14 : decode cX4_chair 14 = .ok (.iload_n 2, 1) := by decide +kernel
theorem dX4_chair_15 : decode cX4_chair 15 = .ok (.iconst 0, 1) := by decide +kernel
theorem dX4_chair_16 : decode cX4_chair 16 = .ok (.bipush 8, 2) := by decide +kernel
theorem dX4_chair_18 : decode cX4_chair 18 = .ok (.invokestatic 95, 3) := by decide +kernel
theorem dX4_chair_21 : decode cX4_chair 21 = .ok (.ifCond .eq 16, 3) := by decide +kernel
theorem dX4_chair_24 : decode cX4_chair 24 = .ok (.aload_n 0, 1) := by decide +kernel
theorem dX4_chair_25 : decode cX4_chair 25 = .ok (.aload_n 0, 1) := by decide +kernel
theorem dX4_chair_26 : decode cX4_chair 26 = .ok (.iload_n 1, 1) := by decide +kernel
theorem dX4_chair_27 : decode cX4_chair 27 = .ok (.iload_n 2, 1) := by decide +kernel
theorem dX4_chair_28 : decode cX4_chair 28 = .ok (.invokevirtual 122, 3) := by decide +kernel
theorem dX4_chair_31 : decode cX4_chair 31 = .ok (.invokevirtual 39, 3) := by decide +kernel
theorem dX4_chair_34 : decode cX4_chair 34 = .ok (.goto 8, 3) := by decide +kernel
theorem dX4_chair_37 : decode cX4_chair 37 = .ok (.aload_n 0, 1) := by decide +kernel
theorem dX4_chair_38 : decode cX4_chair 38 = .ok (.iconst 2, 1) := by decide +kernel
theorem dX4_chair_39 : decode cX4_chair 39 = .ok (.invokevirtual 92, 3) := by decide +kernel
theorem dX4_chair_42 : decode cX4_chair 42 = .ok (.ireturn, 1) := by decide +kernel
theorem dX4_team_0 : decode cX4_team 0 = .ok (.aload_n 0, 1) := by decide +kernel
theorem dX4_team_1 : decode cX4_team 1 = .ok (.iload_n 1, 1) := by decide +kernel
theorem dX4_team_2 : decode cX4_team 2 = .ok (.invokevirtual 116, 3) := by decide +kernel
theorem dX4_team_5 : decode cX4_team 5 = .ok (.ifCond .ne 9, 3) := by decide +kernel
theorem dX4_team_8 : decode cX4_team 8 = .ok (.aload_n 0, 1) := by decide +kernel
theorem dX4_team_9 : decode cX4_team 9 = .ok (.iconst 1, 1) := by decide +kernel
theorem dX4_team_10 : decode cX4_team 10 = .ok (.invokevirtual 92, 3) := by decide +kernel
theorem dX4_team_13 : decode cX4_team 13 = .ok (.ireturn, 1) := by decide +kernel
theorem dX4_team_14 : decode cX4_team 14 = .ok (.iload_n 2, 1) := by decide +kernel
theorem dX4_team_15 : decode cX4_team 15 = .ok (.iconst 0, 1) := by decide +kernel
theorem dX4_team_16 : decode cX4_team 16 = .ok (.bipush 7, 2) := by decide +kernel
theorem dX4_team_18 : decode cX4_team 18 = .ok (.invokestatic 95, 3) := by decide +kernel
theorem dX4_team_21 : decode cX4_team 21 = .ok (.ifCond .eq 16, 3) := by decide +kernel
theorem dX4_team_24 : decode cX4_team 24 = .ok (.aload_n 0, 1) := by decide +kernel
theorem dX4_team_25 : decode cX4_team 25 = .ok (.aload_n 0, 1) := by decide +kernel
theorem dX4_team_26 : decode cX4_team 26 = .ok (.iload_n 1, 1) := by decide +kernel
theorem dX4_team_27 : decode cX4_team 27 = .ok (.iload_n 2, 1) := by decide +kernel
theorem dX4_team_28 : decode cX4_team 28 = .ok (.invokevirtual 47, 3) := by decide +kernel
theorem dX4_team_31 : decode cX4_team 31 = .ok (.invokevirtual 39, 3) := by decide +kernel
theorem dX4_team_34 : decode cX4_team 34 = .ok (.goto 8, 3) := by decide +kernel
theorem dX4_team_37 : decode cX4_team 37 = .ok (.aload_n 0, 1) := by decide +kernel
theorem dX4_team_38 : decode cX4_team 38 = .ok (.iconst 2, 1) := by decide +kernel
theorem dX4_team_39 : decode cX4_team 39 = .ok (.invokevirtual 92, 3) := by decide +kernel
theorem dX4_team_42 : decode cX4_team 42 = .ok (.ireturn, 1) := by decide +kernel
theorem dX4_sumOf_0 : decode cX4_sumOf 0 = .ok (.iconst 0, 1) := by decide +kernel
theorem dX4_sumOf_1 : decode cX4_sumOf 1 = .ok (.istore_n 3, 1) := by decide +kernel
theorem dX4_sumOf_2 : decode cX4_sumOf 2 = .ok (.iconst 0, 1) := by decide +kernel
theorem dX4_sumOf_3 : decode cX4_sumOf 3 = .ok (.istore 4, 2) := by decide +kernel
theorem dX4_sumOf_5 : decode cX4_sumOf 5 = .ok (.iload 4, 2) := by decide +kernel
theorem dX4_sumOf_7 : decode cX4_sumOf 7 = .ok (.aload_n 0, 1) := by decide +kernel
theorem dX4_sumOf_8 : decode cX4_sumOf 8 = .ok (.getfield 7, 3) := by decide +kernel
theorem dX4_sumOf_11 : decode cX4_sumOf 11 = .ok (.bipush 7, 2) := by decide +kernel
theorem dX4_sumOf_13 : decode cX4_sumOf 13 = .ok (.iaload, 1) := by decide +kernel
theorem dX4_sumOf_14 : decode cX4_sumOf 14 = .ok (.if_icmp .ge 42, 3) := by decide +kernel
theorem dX4_sumOf_17 : decode cX4_sumOf 17 = .ok (.iload_n 3, 1) := by decide +kernel
theorem dX4_sumOf_18 : decode cX4_sumOf 18 = .ok (.aload_n 0, 1) := by decide +kernel
theorem dX4_sumOf_19 : decode cX4_sumOf 19 = .ok (.iload 4, 2) := by decide +kernel
theorem dX4_sumOf_21 : decode cX4_sumOf 21 = .ok (.iconst 4, 1) := by decide +kernel
theorem dX4_sumOf_22 : decode cX4_sumOf 22 = .ok (.invokevirtual 43, 3) := by decide +kernel
theorem dX4_sumOf_25 : decode cX4_sumOf 25 = .ok (.iload_n 1, 1) := by decide +kernel
theorem dX4_sumOf_26 : decode cX4_sumOf 26 = .ok (.if_icmp .eq 7, 3) := by decide +kernel
theorem dX4_sumOf_29 : decode cX4_sumOf 29 = .ok (.iconst 0, 1) := by decide +kernel
theorem dX4_sumOf_30 : decode cX4_sumOf 30 = .ok (.goto 18, 3) := by decide +kernel
theorem dX4_sumOf_33 : decode cX4_sumOf 33 = .ok (.iload_n 2, 1) := by decide +kernel
theorem dX4_sumOf_34 : decode cX4_sumOf 34 = .ok (.ifCond .eq 13, 3) := by decide +kernel
theorem dX4_sumOf_37 : decode cX4_sumOf 37 = .ok (.aload_n 0, 1) := by decide +kernel
theorem dX4_sumOf_38 : decode cX4_sumOf 38 = .ok (.iload 4, 2) := by decide +kernel
theorem dX4_sumOf_40 : decode cX4_sumOf 40 = .ok (.iconst 1, 1) := by decide +kernel
theorem dX4_sumOf_41 : decode cX4_sumOf 41 = .ok (.invokevirtual 43, 3) := by decide +kernel
theorem dX4_sumOf_44 : decode cX4_sumOf 44 = .ok (.goto 4, 3) := by decide +kernel
theorem dX4_sumOf_47 : decode cX4_sumOf 47 = .ok (.iconst 1, 1) := by decide +kernel
theorem dX4_sumOf_48 : decode cX4_sumOf 48 = .ok (.iadd, 1) := by decide +kernel
theorem dX4_sumOf_49 : decode cX4_sumOf 49 = .ok (.istore_n 3, 1) := by decide +kernel
theorem dX4_sumOf_50 : decode cX4_sumOf 50 = .ok (.iinc 4 1, 3) := by decide +kernel
theorem dX4_sumOf_53 : decode cX4_sumOf 53 = .ok (.goto (-48), 3) := by decide +kernel
theorem dX4_sumOf_56 : decode cX4_sumOf 56 = .ok (.iload_n 3, 1) := by decide +kernel
theorem dX4_sumOf_57 : decode cX4_sumOf 57 = .ok (.ireturn, 1) := by decide +kernel
theorem dX4_greatestRank_0 : decode cX4_greatestRank 0 = .ok (.iconst (-1), 1) := by decide +kernel
theorem dX4_greatestRank_1 : decode cX4_greatestRank 1 = .ok (.istore_n 1, 1) := by decide +kernel
theorem dX4_greatestRank_2 : decode cX4_greatestRank 2 = .ok (.iconst 0, 1) := by decide +kernel
theorem dX4_greatestRank_3 : decode cX4_greatestRank 3 = .ok (.istore_n 2, 1) := by decide +kernel
theorem dX4_greatestRank_4 : decode cX4_greatestRank 4 = .ok (.iload_n 2, 1) := by decide +kernel
theorem dX4_greatestRank_5 : decode cX4_greatestRank 5 = .ok (.aload_n 0, 1) := by decide +kernel
theorem dX4_greatestRank_6 : decode cX4_greatestRank 6 = .ok (.getfield 7, 3) := by decide +kernel
theorem dX4_greatestRank_9 : decode cX4_greatestRank 9 = .ok (.bipush 7, 2) := by decide +kernel
theorem dX4_greatestRank_11 : decode cX4_greatestRank 11 = .ok (.iaload, 1) := by decide +kernel
theorem dX4_greatestRank_12 : decode cX4_greatestRank 12 = .ok (.if_icmp .ge 37, 3) := by decide +kernel
theorem dX4_greatestRank_15 : decode cX4_greatestRank 15 = .ok (.aload_n 0, 1) := by decide +kernel
theorem dX4_greatestRank_16 : decode cX4_greatestRank 16 = .ok (.iload_n 2, 1) := by decide +kernel
theorem dX4_greatestRank_17 : decode cX4_greatestRank 17 = .ok (.iconst 4, 1) := by decide +kernel
theorem dX4_greatestRank_18 : decode cX4_greatestRank 18 = .ok (.invokevirtual 43, 3) := by decide +kernel
theorem dX4_greatestRank_21 : decode cX4_greatestRank 21 = .ok (.ifCond .ne 20, 3) := by decide +kernel
theorem dX4_greatestRank_24 : decode cX4_greatestRank 24 = .ok (.aload_n 0, 1) := by decide +kernel
theorem dX4_greatestRank_25 : decode cX4_greatestRank 25 = .ok (.iload_n 2, 1) := by decide +kernel
theorem dX4_greatestRank_26 : decode cX4_greatestRank 26 = .ok (.invokevirtual 50, 3) := by decide +kernel
theorem dX4_greatestRank_29 : decode cX4_greatestRank 29 = .ok (.iload_n 1, 1) := by decide +kernel
theorem dX4_greatestRank_30 : decode cX4_greatestRank 30 = .ok (.if_icmp .le 11, 3) := by decide +kernel
theorem dX4_greatestRank_33 : decode cX4_greatestRank 33 = .ok (.aload_n 0, 1) := by decide +kernel
theorem dX4_greatestRank_34 : decode cX4_greatestRank 34 = .ok (.iload_n 2, 1) := by decide +kernel
theorem dX4_greatestRank_35 : decode cX4_greatestRank 35 = .ok (.invokevirtual 50, 3) := by decide +kernel
theorem dX4_greatestRank_38 : decode cX4_greatestRank 38 = .ok (.goto 4, 3) := by decide +kernel
theorem dX4_greatestRank_41 : decode cX4_greatestRank 41 = .ok (.iload_n 1, 1) := by decide +kernel
theorem dX4_greatestRank_42 : decode cX4_greatestRank 42 = .ok (.istore_n 1, 1) := by decide +kernel
theorem dX4_greatestRank_43 : decode cX4_greatestRank 43 = .ok (.iinc 2 1, 3) := by decide +kernel
theorem dX4_greatestRank_46 : decode cX4_greatestRank 46 = .ok (.goto (-42), 3) := by decide +kernel
theorem dX4_greatestRank_49 : decode cX4_greatestRank 49 = .ok (.iload_n 1, 1) := by decide +kernel
theorem dX4_greatestRank_50 : decode cX4_greatestRank 50 = .ok (.ireturn, 1) := by decide +kernel
theorem dX4_valueOf_0 : decode cX4_valueOf 0 = .ok (.iload_n 1, 1) := by decide +kernel
theorem dX4_valueOf_1 : decode cX4_valueOf 1 = .ok (.tableswitch 121 0 10 #[59, 66, 66, 66, 78, 78, 78, 87, 101, 108, 108], 59) := by decide +kernel
theorem dX4_valueOf_60 : decode cX4_valueOf 60 = .ok (.aload_n 0, 1) := by decide +kernel
theorem dX4_valueOf_61 : decode cX4_valueOf 61 = .ok (.getfield 7, 3) := by decide +kernel
theorem dX4_valueOf_64 : decode cX4_valueOf 64 = .ok (.iconst 0, 1) := by decide +kernel
theorem dX4_valueOf_65 : decode cX4_valueOf 65 = .ok (.iaload, 1) := by decide +kernel
theorem dX4_valueOf_66 : decode cX4_valueOf 66 = .ok (.ireturn, 1) := by decide +kernel
theorem dX4_valueOf_67 : decode cX4_valueOf 67 = .ok (.aload_n 0, 1) := by decide +kernel
theorem dX4_valueOf_68 : decode cX4_valueOf 68 = .ok (.getfield 7, 3) := by decide +kernel
theorem dX4_valueOf_71 : decode cX4_valueOf 71 = .ok (.bipush 7, 2) := by decide +kernel
theorem dX4_valueOf_73 : decode cX4_valueOf 73 = .ok (.iload_n 1, 1) := by decide +kernel
theorem dX4_valueOf_74 : decode cX4_valueOf 74 = .ok (.iadd, 1) := by decide +kernel
theorem dX4_valueOf_75 : decode cX4_valueOf 75 = .ok (.iconst 1, 1) := by decide +kernel
theorem dX4_valueOf_76 : decode cX4_valueOf 76 = .ok (.isub, 1) := by decide +kernel
theorem dX4_valueOf_77 : decode cX4_valueOf 77 = .ok (.iaload, 1) := by decide +kernel
theorem dX4_valueOf_78 : decode cX4_valueOf 78 = .ok (.ireturn, 1) := by decide +kernel
theorem dX4_valueOf_79 : decode cX4_valueOf 79 = .ok (.aload_n 0, 1) := by decide +kernel
theorem dX4_valueOf_80 : decode cX4_valueOf 80 = .ok (.iload_n 1, 1) := by decide +kernel
theorem dX4_valueOf_81 : decode cX4_valueOf 81 = .ok (.iconst 4, 1) := by decide +kernel
theorem dX4_valueOf_82 : decode cX4_valueOf 82 = .ok (.isub, 1) := by decide +kernel
theorem dX4_valueOf_83 : decode cX4_valueOf 83 = .ok (.iconst 0, 1) := by decide +kernel
theorem dX4_valueOf_84 : decode cX4_valueOf 84 = .ok (.invokevirtual 125, 3) := by decide +kernel
theorem dX4_valueOf_87 : decode cX4_valueOf 87 = .ok (.ireturn, 1) := by decide +kernel
theorem dX4_valueOf_88 : decode cX4_valueOf 88 = .ok (.aload_n 0, 1) := by decide +kernel
theorem dX4_valueOf_89 : decode cX4_valueOf 89 = .ok (.iconst 0, 1) := by decide +kernel
theorem dX4_valueOf_90 : decode cX4_valueOf 90 = .ok (.iconst 1, 1) := by decide +kernel
theorem dX4_valueOf_91 : decode cX4_valueOf 91 = .ok (.invokevirtual 125, 3) := by decide +kernel
theorem dX4_valueOf_94 : decode cX4_valueOf 94 = .ok (.aload_n 0, 1) := by decide +kernel
theorem dX4_valueOf_95 : decode cX4_valueOf 95 = .ok (.iconst 1, 1) := by decide +kernel
theorem dX4_valueOf_96 : decode cX4_valueOf 96 = .ok (.iconst 1, 1) := by decide +kernel
theorem dX4_valueOf_97 : decode cX4_valueOf 97 = .ok (.invokevirtual 125, 3) := by decide +kernel
theorem dX4_valueOf_100 : decode cX4_valueOf 100 = .ok (.iadd, 1) := by decide +kernel
theorem dX4_valueOf_101 : decode cX4_valueOf 101 = .ok (.ireturn, 1) := by decide +kernel
theorem dX4_valueOf_102 : decode cX4_valueOf 102 = .ok (.aload_n 0, 1) := by decide +kernel
theorem dX4_valueOf_103 : decode cX4_valueOf 103 = .ok (.iconst 2, 1) := by decide +kernel
theorem dX4_valueOf_104 : decode cX4_valueOf 104 = .ok (.iconst 1, 1) := by decide +kernel
theorem dX4_valueOf_105 : decode cX4_valueOf 105 = .ok (.invokevirtual 125, 3) := by decide +kernel
theorem dX4_valueOf_108 : decode cX4_valueOf 108 = .ok (.ireturn, 1) := by decide +kernel
theorem dX4_valueOf_109 : decode cX4_valueOf 109 = .ok (.aload_n 0, 1) := by decide +kernel
theorem dX4_valueOf_110 : decode cX4_valueOf 110 = .ok (.getfield 7, 3) := by decide +kernel
theorem dX4_valueOf_113 : decode cX4_valueOf 113 = .ok (.bipush 10, 2) := by decide +kernel
theorem dX4_valueOf_115 : decode cX4_valueOf 115 = .ok (.iload_n 1, 1) := by decide +kernel
theorem dX4_valueOf_116 : decode cX4_valueOf 116 = .ok (.iadd, 1) := by decide +kernel
theorem dX4_valueOf_117 : decode cX4_valueOf 117 = .ok (.bipush 9, 2) := by decide +kernel
theorem dX4_valueOf_119 : decode cX4_valueOf 119 = .ok (.isub, 1) := by decide +kernel
theorem dX4_valueOf_120 : decode cX4_valueOf 120 = .ok (.iaload, 1) := by decide +kernel
theorem dX4_valueOf_121 : decode cX4_valueOf 121 = .ok (.ireturn, 1) := by decide +kernel
theorem dX4_valueOf_122 : decode cX4_valueOf 122 = .ok (.aload_n 0, 1) := by decide +kernel
theorem dX4_valueOf_123 : decode cX4_valueOf 123 = .ok (.invokevirtual 129, 3) := by decide +kernel
theorem dX4_valueOf_126 : decode cX4_valueOf 126 = .ok (.ireturn, 1) := by decide +kernel
theorem dX4_value_0 : decode cX4_value 0 = .ok (.iload_n 1, 1) := by decide +kernel
theorem dX4_value_1 : decode cX4_value 1 = .ok (.iconst 0, 1) := by decide +kernel
theorem dX4_value_2 : decode cX4_value 2 = .ok (.bipush 11, 2) := by decide +kernel
theorem dX4_value_4 : decode cX4_value 4 = .ok (.invokestatic 95, 3) := by decide +kernel
theorem dX4_value_7 : decode cX4_value 7 = .ok (.ifCond .eq 15, 3) := by decide +kernel
theorem dX4_value_10 : decode cX4_value 10 = .ok (.aload_n 0, 1) := by decide +kernel
theorem dX4_value_11 : decode cX4_value 11 = .ok (.aload_n 0, 1) := by decide +kernel
theorem dX4_value_12 : decode cX4_value 12 = .ok (.iload_n 1, 1) := by decide +kernel
theorem dX4_value_13 : decode cX4_value 13 = .ok (.invokevirtual 133, 3) := by decide +kernel
theorem dX4_value_16 : decode cX4_value 16 = .ok (.invokevirtual 39, 3) := by decide +kernel
theorem dX4_value_19 : decode cX4_value 19 = .ok (.goto 8, 3) := by decide +kernel
theorem dX4_value_22 : decode cX4_value 22 = .ok (.aload_n 0, 1) := by decide +kernel
theorem dX4_value_23 : decode cX4_value 23 = .ok (.iconst 1, 1) := by decide +kernel
theorem dX4_value_24 : decode cX4_value 24 = .ok (.invokevirtual 92, 3) := by decide +kernel
theorem dX4_value_27 : decode cX4_value 27 = .ok (.ireturn, 1) := by decide +kernel
theorem dX4_way_0 : decode cX4_way 0 = .ok (.aload_n 0, 1) := by decide +kernel
theorem dX4_way_1 : decode cX4_way 1 = .ok (.iload_n 1, 1) := by decide +kernel
theorem dX4_way_2 : decode cX4_way 2 = .ok (.invokevirtual 88, 3) := by decide +kernel
theorem dX4_way_5 : decode cX4_way 5 = .ok (.ifCond .eq 24, 3) := by decide +kernel
theorem dX4_way_8 : decode cX4_way 8 = .ok (.aload_n 0, 1) := by decide +kernel
theorem dX4_way_9 : decode cX4_way 9 = .ok (.iload_n 2, 1) := by decide +kernel
theorem dX4_way_10 : decode cX4_way 10 = .ok (.invokevirtual 88, 3) := by decide +kernel
theorem dX4_way_13 : decode cX4_way 13 = .ok (.ifCond .eq 16, 3) := by decide +kernel
theorem dX4_way_16 : decode cX4_way 16 = .ok (.aload_n 0, 1) := by decide +kernel
theorem dX4_way_17 : decode cX4_way 17 = .ok (.aload_n 0, 1) := by decide +kernel
theorem dX4_way_18 : decode cX4_way 18 = .ok (.iload_n 1, 1) := by decide +kernel
theorem dX4_way_19 : decode cX4_way 19 = .ok (.iload_n 2, 1) := by decide +kernel
theorem dX4_way_20 : decode cX4_way 20 = .ok (.invokevirtual 53, 3) := by decide +kernel
theorem dX4_way_23 : decode cX4_way 23 = .ok (.invokevirtual 39, 3) := by decide +kernel
theorem dX4_way_26 : decode cX4_way 26 = .ok (.goto 8, 3) := by decide +kernel
theorem dX4_way_29 : decode cX4_way 29 = .ok (.aload_n 0, 1) := by decide +kernel
theorem dX4_way_30 : decode cX4_way 30 = .ok (.iconst 1, 1) := by decide +kernel
theorem dX4_way_31 : decode cX4_way 31 = .ok (.invokevirtual 92, 3) := by decide +kernel
theorem dX4_way_34 : decode cX4_way 34 = .ok (.ireturn, 1) := by decide +kernel
theorem dX4_work_0 : decode cX4_work 0 = .ok (.aload_n 0, 1) := by decide +kernel
theorem dX4_work_1 : decode cX4_work 1 = .ok (.iload_n 1, 1) := by decide +kernel
theorem dX4_work_2 : decode cX4_work 2 = .ok (.invokevirtual 113, 3) := by decide +kernel
theorem dX4_work_5 : decode cX4_work 5 = .ok (.ifCond .eq 24, 3) := by decide +kernel
theorem dX4_work_8 : decode cX4_work 8 = .ok (.aload_n 0, 1) := by decide +kernel
theorem dX4_work_9 : decode cX4_work 9 = .ok (.iload_n 2, 1) := by decide +kernel
theorem dX4_work_10 : decode cX4_work 10 = .ok (.invokevirtual 116, 3) := by decide +kernel
theorem dX4_work_13 : decode cX4_work 13 = .ok (.ifCond .eq 16, 3) := by decide +kernel
theorem dX4_work_16 : decode cX4_work 16 = .ok (.aload_n 0, 1) := by decide +kernel
theorem dX4_work_17 : decode cX4_work 17 = .ok (.aload_n 0, 1) := by decide +kernel
theorem dX4_work_18 : decode cX4_work 18 = .ok (.iload_n 1, 1) := by decide +kernel
theorem dX4_work_19 : decode cX4_work 19 = .ok (.iload_n 2, 1) := by decide +kernel
theorem dX4_work_20 : decode cX4_work 20 = .ok (.invokevirtual 66, 3) := by decide +kernel
theorem dX4_work_23 : decode cX4_work 23 = .ok (.invokevirtual 39, 3) := by decide +kernel
theorem dX4_work_26 : decode cX4_work 26 = .ok (.goto 8, 3) := by decide +kernel
theorem dX4_work_29 : decode cX4_work 29 = .ok (.aload_n 0, 1) := by decide +kernel
theorem dX4_work_30 : decode cX4_work 30 = .ok (.iconst 1, 1) := by decide +kernel
theorem dX4_work_31 : decode cX4_work 31 = .ok (.invokevirtual 92, 3) := by decide +kernel
theorem dX4_work_34 : decode cX4_work 34 = .ok (.ireturn, 1) := by decide +kernel
theorem dX4_journal_0 : decode cX4_journal 0 = .ok (.iload_n 1, 1) := by decide +kernel
theorem dX4_journal_1 : decode cX4_journal 1 = .ok (.ifCond .ge 11, 3) := by decide +kernel
theorem dX4_journal_4 : decode cX4_journal 4 = .ok (.aload_n 0, 1) := by decide +kernel
theorem dX4_journal_5 : decode cX4_journal 5 = .ok (.iconst 1, 1) := by decide +kernel
theorem dX4_journal_6 : decode cX4_journal 6 = .ok (.invokevirtual 92, 3) := by decide +kernel
theorem dX4_journal_9 : decode cX4_journal 9 = .ok (.goto 32, 3) := by decide +kernel
theorem dX4_journal_12 : decode cX4_journal 12 = .ok (.aload_n 0, 1) := by decide +kernel
theorem dX4_journal_13 : decode cX4_journal 13 = .ok (.iload_n 1, 1) := by decide +kernel
theorem dX4_journal_14 : decode cX4_journal 14 = .ok (.aload_n 0, 1) := by decide +kernel
theorem dX4_journal_15 : decode cX4_journal 15 = .ok (.getfield 7, 3) := by decide +kernel
theorem dX4_journal_18 : decode cX4_journal 18 = .ok (.bipush 12, 2) := by decide +kernel
theorem dX4_journal_20 : decode cX4_journal 20 = .ok (.iaload, 1) := by decide +kernel
theorem dX4_journal_21 : decode cX4_journal 21 = .ok (.if_icmp .ge 16, 3) := by decide +kernel
theorem dX4_journal_24 : decode cX4_journal 24 = .ok (.aload_n 0, 1) := by decide +kernel
theorem dX4_journal_25 : decode cX4_journal 25 = .ok (.getfield 7, 3) := by decide +kernel
theorem dX4_journal_28 : decode cX4_journal 28 = .ok (.sipush 157, 3) := by decide +kernel
theorem dX4_journal_31 : decode cX4_journal 31 = .ok (.iload_n 1, 1) := by decide +kernel
theorem dX4_journal_32 : decode cX4_journal 32 = .ok (.iadd, 1) := by decide +kernel
theorem dX4_journal_33 : decode cX4_journal 33 = .ok (.iaload, 1) := by decide +kernel
theorem dX4_journal_34 : decode cX4_journal 34 = .ok (.goto 4, 3) := by decide +kernel
theorem dX4_journal_37 : decode cX4_journal 37 = .ok (.iconst (-1), 1) := by decide +kernel
theorem dX4_journal_38 : decode cX4_journal 38 = .ok (.invokevirtual 39, 3) := by decide +kernel
theorem dX4_journal_41 : decode cX4_journal 41 = .ok (.ireturn, 1) := by decide +kernel
theorem dX4_minuteOf_0 : decode cX4_minuteOf 0 = .ok (.aload_n 0, 1) := by decide +kernel
theorem dX4_minuteOf_1 : decode cX4_minuteOf 1 = .ok (.iload_n 1, 1) := by decide +kernel
theorem dX4_minuteOf_2 : decode cX4_minuteOf 2 = .ok (.invokevirtual 113, 3) := by decide +kernel
theorem dX4_minuteOf_5 : decode cX4_minuteOf 5 = .ok (.ifCond .ne 9, 3) := by decide +kernel
theorem dX4_minuteOf_8 : decode cX4_minuteOf 8 = .ok (.aload_n 0, 1) := by decide +kernel
theorem dX4_minuteOf_9 : decode cX4_minuteOf 9 = .ok (.iconst 1, 1) := by decide +kernel
theorem dX4_minuteOf_10 : decode cX4_minuteOf 10 = .ok (.invokevirtual 92, 3) := by decide +kernel
theorem dX4_minuteOf_13 : decode cX4_minuteOf 13 = .ok (.ireturn, 1) := by decide +kernel
theorem dX4_minuteOf_14 : decode cX4_minuteOf 14 = .ok (.aload_n 0, 1) := by decide +kernel
theorem dX4_minuteOf_15 : decode cX4_minuteOf 15 = .ok (.invokevirtual 119, 3) := by decide +kernel
theorem dX4_minuteOf_18 : decode cX4_minuteOf 18 = .ok (.aload_n 0, 1) := by decide +kernel
theorem dX4_minuteOf_19 : decode cX4_minuteOf 19 = .ok (.aload_n 0, 1) := by decide +kernel
theorem dX4_minuteOf_20 : decode cX4_minuteOf 20 = .ok (.getfield 25, 3) := by decide +kernel
theorem dX4_minuteOf_23 : decode cX4_minuteOf 23 = .ok (.iload_n 1, 1) := by decide +kernel
theorem dX4_minuteOf_24 : decode cX4_minuteOf 24 = .ok (.iaload, 1) := by decide +kernel
theorem dX4_minuteOf_25 : decode cX4_minuteOf 25 = .ok (.invokevirtual 39, 3) := by decide +kernel
theorem dX4_minuteOf_28 : decode cX4_minuteOf 28 = .ok (.ireturn, 1) := by decide +kernel
theorem dX4_minutesToAll_0 : decode cX4_minutesToAll 0 = .ok (.aload_n 0, 1) := by decide +kernel
theorem dX4_minutesToAll_1 : decode cX4_minutesToAll 1 = .ok (.invokevirtual 119, 3) := by decide +kernel
theorem dX4_minutesToAll_4 : decode cX4_minutesToAll 4 = .ok (.aload_n 0, 1) := by decide +kernel
theorem dX4_minutesToAll_5 : decode cX4_minutesToAll 5 = .ok (.aload_n 0, 1) := by decide +kernel
theorem dX4_minutesToAll_6 : decode cX4_minutesToAll 6 = .ok (.getfield 82, 3) := by decide +kernel
theorem dX4_minutesToAll_9 : decode cX4_minutesToAll 9 = .ok (.invokevirtual 39, 3) := by decide +kernel
theorem dX4_minutesToAll_12 : decode cX4_minutesToAll 12 = .ok (.ireturn, 1) := by decide +kernel
theorem dX4_bestSpan_0 : decode cX4_bestSpan 0 = .ok (.iconst (-1), 1) := by decide +kernel
theorem dX4_bestSpan_1 : decode cX4_bestSpan 1 = .ok (.istore_n 1, 1) := by decide +kernel
theorem dX4_bestSpan_2 : decode cX4_bestSpan 2 = .ok (.iconst 0, 1) := by decide +kernel
theorem dX4_bestSpan_3 : decode cX4_bestSpan 3 = .ok (.istore_n 2, 1) := by decide +kernel
theorem dX4_bestSpan_4 : decode cX4_bestSpan 4 = .ok (.iconst 0, 1) := by decide +kernel
theorem dX4_bestSpan_5 : decode cX4_bestSpan 5 = .ok (.istore_n 3, 1) := by decide +kernel
theorem dX4_bestSpan_6 : decode cX4_bestSpan 6 = .ok (.iload_n 3, 1) := by decide +kernel
theorem dX4_bestSpan_7 : decode cX4_bestSpan 7 = .ok (.aload_n 0, 1) := by decide +kernel
theorem dX4_bestSpan_8 : decode cX4_bestSpan 8 = .ok (.getfield 7, 3) := by decide +kernel
theorem dX4_bestSpan_11 : decode cX4_bestSpan 11 = .ok (.iconst 0, 1) := by decide +kernel
theorem dX4_bestSpan_12 : decode cX4_bestSpan 12 = .ok (.iaload, 1) := by decide +kernel
theorem dX4_bestSpan_13 : decode cX4_bestSpan 13 = .ok (.if_icmp .ge 69, 3) := by decide +kernel
theorem dX4_bestSpan_16 : decode cX4_bestSpan 16 = .ok (.aload_n 0, 1) := by decide +kernel
theorem dX4_bestSpan_17 : decode cX4_bestSpan 17 = .ok (.getfield 7, 3) := by decide +kernel
theorem dX4_bestSpan_20 : decode cX4_bestSpan 20 = .ok (.bipush 8, 2) := by decide +kernel
theorem dX4_bestSpan_22 : decode cX4_bestSpan 22 = .ok (.iaload, 1) := by decide +kernel
theorem dX4_bestSpan_23 : decode cX4_bestSpan 23 = .ok (.iconst 4, 1) := by decide +kernel
theorem dX4_bestSpan_24 : decode cX4_bestSpan 24 = .ok (.if_icmp .ge 58, 3) := by decide +kernel
theorem dX4_bestSpan_27 : decode cX4_bestSpan 27 = .ok (.aload_n 0, 1) := by decide +kernel
theorem dX4_bestSpan_28 : decode cX4_bestSpan 28 = .ok (.iload_n 3, 1) := by decide +kernel
theorem dX4_bestSpan_29 : decode cX4_bestSpan 29 = .ok (.iconst 0, 1) := by decide +kernel
theorem dX4_bestSpan_30 : decode cX4_bestSpan 30 = .ok (.invokevirtual 109, 3) := by decide +kernel
theorem dX4_bestSpan_33 : decode cX4_bestSpan 33 = .ok (.aload_n 0, 1) := by decide +kernel
theorem dX4_bestSpan_34 : decode cX4_bestSpan 34 = .ok (.invokevirtual 119, 3) := by decide +kernel
theorem dX4_bestSpan_37 : decode cX4_bestSpan 37 = .ok (.aload_n 0, 1) := by decide +kernel
theorem dX4_bestSpan_38 : decode cX4_bestSpan 38 = .ok (.getfield 7, 3) := by decide +kernel
theorem dX4_bestSpan_41 : decode cX4_bestSpan 41 = .ok (.bipush 8, 2) := by decide +kernel
theorem dX4_bestSpan_43 : decode cX4_bestSpan 43 = .ok (.dup2, 1) := by decide +kernel
theorem dX4_bestSpan_44 : decode cX4_bestSpan 44 = .ok (.iaload, 1) := by decide +kernel
theorem dX4_bestSpan_45 : decode cX4_bestSpan 45 = .ok (.iconst 1, 1) := by decide +kernel
theorem dX4_bestSpan_46 : decode cX4_bestSpan 46 = .ok (.isub, 1) := by decide +kernel
theorem dX4_bestSpan_47 : decode cX4_bestSpan 47 = .ok (.iastore, 1) := by decide +kernel
theorem dX4_bestSpan_48 : decode cX4_bestSpan 48 = .ok (.aload_n 0, 1) := by decide +kernel
theorem dX4_bestSpan_49 : decode cX4_bestSpan 49 = .ok (.getfield 82, 3) := by decide +kernel
theorem dX4_bestSpan_52 : decode cX4_bestSpan 52 = .ok (.iconst (-1), 1) := by decide +kernel
theorem dX4_bestSpan_53 : decode cX4_bestSpan 53 = .ok (.if_icmp .eq 23, 3) := by decide +kernel
theorem dX4_bestSpan_56 : decode cX4_bestSpan 56 = .ok (.iload_n 1, 1) := by decide +kernel
theorem dX4_bestSpan_57 : decode cX4_bestSpan 57 = .ok (.iconst (-1), 1) := by decide +kernel
theorem dX4_bestSpan_58 : decode cX4_bestSpan 58 = .ok (.if_icmp .eq 11, 3) := by decide +kernel
theorem dX4_bestSpan_61 : decode cX4_bestSpan 61 = .ok (.aload_n 0, 1) := by decide +kernel
theorem dX4_bestSpan_62 : decode cX4_bestSpan 62 = .ok (.getfield 82, 3) := by decide +kernel
theorem dX4_bestSpan_65 : decode cX4_bestSpan 65 = .ok (.iload_n 2, 1) := by decide +kernel
theorem dX4_bestSpan_66 : decode cX4_bestSpan 66 = .ok (.if_icmp .ge 10, 3) := by decide +kernel
theorem dX4_bestSpan_69 : decode cX4_bestSpan 69 = .ok (.iload_n 3, 1) := by decide +kernel
theorem dX4_bestSpan_70 : decode cX4_bestSpan 70 = .ok (.istore_n 1, 1) := by decide +kernel
theorem dX4_bestSpan_71 : decode cX4_bestSpan 71 = .ok (.aload_n 0, 1) := by decide +kernel
theorem dX4_bestSpan_72 : decode cX4_bestSpan 72 = .ok (.getfield 82, 3) := by decide +kernel
theorem dX4_bestSpan_75 : decode cX4_bestSpan 75 = .ok (.istore_n 2, 1) := by decide +kernel
theorem dX4_bestSpan_76 : decode cX4_bestSpan 76 = .ok (.iinc 3 1, 3) := by decide +kernel
theorem dX4_bestSpan_79 : decode cX4_bestSpan 79 = .ok (.goto (-73), 3) := by decide +kernel
theorem dX4_bestSpan_82 : decode cX4_bestSpan 82 = .ok (.aload_n 0, 1) := by decide +kernel
theorem dX4_bestSpan_83 : decode cX4_bestSpan 83 = .ok (.iload_n 1, 1) := by decide +kernel
theorem dX4_bestSpan_84 : decode cX4_bestSpan 84 = .ok (.invokevirtual 39, 3) := by decide +kernel
theorem dX4_bestSpan_87 : decode cX4_bestSpan 87 = .ok (.ireturn, 1) := by decide +kernel
theorem dX4_chosen_0 : decode cX4_chosen 0 = .ok (.aload_n 0, 1) := by decide +kernel
theorem dX4_chosen_1 : decode cX4_chosen 1 = .ok (.iload_n 1, 1) := by decide +kernel
theorem dX4_chosen_2 : decode cX4_chosen 2 = .ok (.invokevirtual 88, 3) := by decide +kernel
theorem dX4_chosen_5 : decode cX4_chosen 5 = .ok (.ifCond .eq 15, 3) := by decide +kernel
theorem dX4_chosen_8 : decode cX4_chosen 8 = .ok (.aload_n 0, 1) := by decide +kernel
theorem dX4_chosen_9 : decode cX4_chosen 9 = .ok (.aload_n 0, 1) := by decide +kernel
theorem dX4_chosen_10 : decode cX4_chosen 10 = .ok (.iload_n 1, 1) := by decide +kernel
theorem dX4_chosen_11 : decode cX4_chosen 11 = .ok (.invokevirtual 73, 3) := by decide +kernel
theorem dX4_chosen_14 : decode cX4_chosen 14 = .ok (.invokevirtual 39, 3) := by decide +kernel
theorem dX4_chosen_17 : decode cX4_chosen 17 = .ok (.goto 8, 3) := by decide +kernel
theorem dX4_chosen_20 : decode cX4_chosen 20 = .ok (.aload_n 0, 1) := by decide +kernel
theorem dX4_chosen_21 : decode cX4_chosen 21 = .ok (.iconst 1, 1) := by decide +kernel
theorem dX4_chosen_22 : decode cX4_chosen 22 = .ok (.invokevirtual 92, 3) := by decide +kernel
theorem dX4_chosen_25 : decode cX4_chosen 25 = .ok (.ireturn, 1) := by decide +kernel
theorem dX4_meanCold_0 : decode cX4_meanCold 0 = .ok (.aload_n 0, 1) := by decide +kernel
theorem dX4_meanCold_1 : decode cX4_meanCold 1 = .ok (.iconst 0, 1) := by decide +kernel
theorem dX4_meanCold_2 : decode cX4_meanCold 2 = .ok (.putfield 28, 3) := by decide +kernel
theorem dX4_meanCold_5 : decode cX4_meanCold 5 = .ok (.iconst 0, 1) := by decide +kernel
theorem dX4_meanCold_6 : decode cX4_meanCold 6 = .ok (.istore_n 1, 1) := by decide +kernel
theorem dX4_meanCold_7 : decode cX4_meanCold 7 = .ok (.iconst 0, 1) := by decide +kernel
theorem dX4_meanCold_8 : decode cX4_meanCold 8 = .ok (.istore_n 2, 1) := by decide +kernel
theorem dX4_meanCold_9 : decode cX4_meanCold 9 = .ok (.iconst 0, 1) := by decide +kernel
theorem dX4_meanCold_10 : decode cX4_meanCold 10 = .ok (.istore_n 3, 1) := by decide +kernel
theorem dX4_meanCold_11 : decode cX4_meanCold 11 = .ok (.iload_n 3, 1) := by decide +kernel
theorem dX4_meanCold_12 : decode cX4_meanCold 12 = .ok (.aload_n 0, 1) := by decide +kernel
theorem dX4_meanCold_13 : decode cX4_meanCold 13 = .ok (.getfield 7, 3) := by decide +kernel
theorem dX4_meanCold_16 : decode cX4_meanCold 16 = .ok (.bipush 7, 2) := by decide +kernel
theorem dX4_meanCold_18 : decode cX4_meanCold 18 = .ok (.iaload, 1) := by decide +kernel
theorem dX4_meanCold_19 : decode cX4_meanCold 19 = .ok (.if_icmp .ge 50, 3) := by decide +kernel
theorem dX4_meanCold_22 : decode cX4_meanCold 22 = .ok (.iload_n 1, 1) := by decide +kernel
theorem dX4_meanCold_23 : decode cX4_meanCold 23 = .ok (.aload_n 0, 1) := by decide +kernel
theorem dX4_meanCold_24 : decode cX4_meanCold 24 = .ok (.iload_n 3, 1) := by decide +kernel
theorem dX4_meanCold_25 : decode cX4_meanCold 25 = .ok (.iconst 4, 1) := by decide +kernel
theorem dX4_meanCold_26 : decode cX4_meanCold 26 = .ok (.invokevirtual 43, 3) := by decide +kernel
theorem dX4_meanCold_29 : decode cX4_meanCold 29 = .ok (.iconst 2, 1) := by decide +kernel
theorem dX4_meanCold_30 : decode cX4_meanCold 30 = .ok (.if_icmp .ge 7, 3) := by decide +kernel
theorem dX4_meanCold_33 : decode cX4_meanCold 33 = .ok (.iconst 1, 1) := by decide +kernel
theorem dX4_meanCold_34 : decode cX4_meanCold 34 = .ok (.goto 4, 3) := by decide +kernel
theorem dX4_meanCold_37 : decode cX4_meanCold 37 = .ok (.iconst 0, 1) := by decide +kernel
theorem dX4_meanCold_38 : decode cX4_meanCold 38 = .ok (.iadd, 1) := by decide +kernel
theorem dX4_meanCold_39 : decode cX4_meanCold 39 = .ok (.istore_n 1, 1) := by decide +kernel
theorem dX4_meanCold_40 : decode cX4_meanCold 40 = .ok (.iload_n 2, 1) := by decide +kernel
theorem dX4_meanCold_41 : decode cX4_meanCold 41 = .ok (.aload_n 0, 1) := by decide +kernel
theorem dX4_meanCold_42 : decode cX4_meanCold 42 = .ok (.iload_n 3, 1) := by decide +kernel
theorem dX4_meanCold_43 : decode cX4_meanCold 43 = .ok (.iconst 4, 1) := by decide +kernel
theorem dX4_meanCold_44 : decode cX4_meanCold 44 = .ok (.invokevirtual 43, 3) := by decide +kernel
theorem dX4_meanCold_47 : decode cX4_meanCold 47 = .ok (.iconst 2, 1) := by decide +kernel
theorem dX4_meanCold_48 : decode cX4_meanCold 48 = .ok (.if_icmp .ge 12, 3) := by decide +kernel
theorem dX4_meanCold_51 : decode cX4_meanCold 51 = .ok (.aload_n 0, 1) := by decide +kernel
theorem dX4_meanCold_52 : decode cX4_meanCold 52 = .ok (.iload_n 3, 1) := by decide +kernel
theorem dX4_meanCold_53 : decode cX4_meanCold 53 = .ok (.iconst 2, 1) := by decide +kernel
theorem dX4_meanCold_54 : decode cX4_meanCold 54 = .ok (.invokevirtual 43, 3) := by decide +kernel
theorem dX4_meanCold_57 : decode cX4_meanCold 57 = .ok (.goto 4, 3) := by decide +kernel
theorem dX4_meanCold_60 : decode cX4_meanCold 60 = .ok (.iconst 0, 1) := by decide +kernel
theorem dX4_meanCold_61 : decode cX4_meanCold 61 = .ok (.iadd, 1) := by decide +kernel
theorem dX4_meanCold_62 : decode cX4_meanCold 62 = .ok (.istore_n 2, 1) := by decide +kernel
theorem dX4_meanCold_63 : decode cX4_meanCold 63 = .ok (.iinc 3 1, 3) := by decide +kernel
theorem dX4_meanCold_66 : decode cX4_meanCold 66 = .ok (.goto (-55), 3) := by decide +kernel
theorem dX4_meanCold_69 : decode cX4_meanCold 69 = .ok (.iload_n 1, 1) := by decide +kernel
theorem dX4_meanCold_70 : decode cX4_meanCold 70 = .ok (.ifCond .ne 7, 3) := by decide +kernel
theorem dX4_meanCold_73 : decode cX4_meanCold 73 = .ok (.dconst 0, 1) := by decide +kernel
theorem dX4_meanCold_74 : decode cX4_meanCold 74 = .ok (.goto 8, 3) := by decide +kernel
theorem dX4_meanCold_77 : decode cX4_meanCold 77 = .ok (.iload_n 2, 1) := by decide +kernel
theorem dX4_meanCold_78 : decode cX4_meanCold 78 = .ok (.i2d, 1) := by decide +kernel
theorem dX4_meanCold_79 : decode cX4_meanCold 79 = .ok (.iload_n 1, 1) := by decide +kernel
theorem dX4_meanCold_80 : decode cX4_meanCold 80 = .ok (.i2d, 1) := by decide +kernel
theorem dX4_meanCold_81 : decode cX4_meanCold 81 = .ok (.ddiv, 1) := by decide +kernel
theorem dX4_meanCold_82 : decode cX4_meanCold 82 = .ok (.dreturn, 1) := by decide +kernel
theorem dX4_append_0 : decode cX4_append 0 = .ok (.iload_n 1, 1) := by decide +kernel
theorem dX4_append_1 : decode cX4_append 1 = .ok (.iconst 0, 1) := by decide +kernel
theorem dX4_append_2 : decode cX4_append 2 = .ok (.bipush 127, 2) := by decide +kernel
theorem dX4_append_4 : decode cX4_append 4 = .ok (.invokestatic 95, 3) := by decide +kernel
theorem dX4_append_7 : decode cX4_append 7 = .ok (.ifCond .ne 9, 3) := by decide +kernel
theorem dX4_append_10 : decode cX4_append 10 = .ok (.aload_n 0, 1) := by decide +kernel
theorem dX4_append_11 : decode cX4_append 11 = .ok (.iconst 1, 1) := by decide +kernel
theorem dX4_append_12 : decode cX4_append 12 = .ok (.invokevirtual 92, 3) := by decide +kernel
theorem dX4_append_15 : decode cX4_append 15 = .ok (.ireturn, 1) := by decide +kernel
theorem dX4_append_16 : decode cX4_append 16 = .ok (.aload_n 0, 1) := by decide +kernel
theorem dX4_append_17 : decode cX4_append 17 = .ok (.getfield 136, 3) := by decide +kernel
theorem dX4_append_20 : decode cX4_append 20 = .ok (.bipush 100, 2) := by decide +kernel
theorem dX4_append_22 : decode cX4_append 22 = .ok (.if_icmp .ne 9, 3) := by decide +kernel
theorem dX4_append_25 : decode cX4_append 25 = .ok (.aload_n 0, 1) := by decide +kernel
theorem dX4_append_26 : decode cX4_append 26 = .ok (.iconst 2, 1) := by decide +kernel
theorem dX4_append_27 : decode cX4_append 27 = .ok (.invokevirtual 92, 3) := by decide +kernel
theorem dX4_append_30 : decode cX4_append 30 = .ok (.ireturn, 1) := by decide +kernel
theorem dX4_append_31 : decode cX4_append 31 = .ok (.aload_n 0, 1) := by decide +kernel
theorem dX4_append_32 : decode cX4_append 32 = .ok (.getfield 22, 3) := by decide +kernel
theorem dX4_append_35 : decode cX4_append 35 = .ok (.aload_n 0, 1) := by decide +kernel
theorem dX4_append_36 : decode cX4_append 36 = .ok (.getfield 136, 3) := by decide +kernel
theorem dX4_append_39 : decode cX4_append 39 = .ok (.iload_n 1, 1) := by decide +kernel
theorem dX4_append_40 : decode cX4_append 40 = .ok (.iastore, 1) := by decide +kernel
theorem dX4_append_41 : decode cX4_append 41 = .ok (.aload_n 0, 1) := by decide +kernel
theorem dX4_append_42 : decode cX4_append 42 = .ok (.dup, 1) := by decide +kernel
theorem dX4_append_43 : decode cX4_append 43 = .ok (.getfield 136, 3) := by decide +kernel
theorem dX4_append_46 : decode cX4_append 46 = .ok (.iconst 1, 1) := by decide +kernel
theorem dX4_append_47 : decode cX4_append 47 = .ok (.iadd, 1) := by decide +kernel
theorem dX4_append_48 : decode cX4_append 48 = .ok (.putfield 136, 3) := by decide +kernel
theorem dX4_append_51 : decode cX4_append 51 = .ok (.aload_n 0, 1) := by decide +kernel
theorem dX4_append_52 : decode cX4_append 52 = .ok (.aload_n 0, 1) := by decide +kernel
theorem dX4_append_53 : decode cX4_append 53 = .ok (.getfield 136, 3) := by decide +kernel
theorem dX4_append_56 : decode cX4_append 56 = .ok (.invokevirtual 39, 3) := by decide +kernel
theorem dX4_append_59 : decode cX4_append 59 = .ok (.ireturn, 1) := by decide +kernel
theorem dX4_clearText_0 : decode cX4_clearText 0 = .ok (.aload_n 0, 1) := by decide +kernel
theorem dX4_clearText_1 : decode cX4_clearText 1 = .ok (.getfield 136, 3) := by decide +kernel
theorem dX4_clearText_4 : decode cX4_clearText 4 = .ok (.istore_n 1, 1) := by decide +kernel
theorem dX4_clearText_5 : decode cX4_clearText 5 = .ok (.aload_n 0, 1) := by decide +kernel
theorem dX4_clearText_6 : decode cX4_clearText 6 = .ok (.iconst 0, 1) := by decide +kernel
theorem dX4_clearText_7 : decode cX4_clearText 7 = .ok (.putfield 136, 3) := by decide +kernel
theorem dX4_clearText_10 : decode cX4_clearText 10 = .ok (.aload_n 0, 1) := by decide +kernel
theorem dX4_clearText_11 : decode cX4_clearText 11 = .ok (.iload_n 1, 1) := by decide +kernel
theorem dX4_clearText_12 : decode cX4_clearText 12 = .ok (.invokevirtual 39, 3) := by decide +kernel
theorem dX4_clearText_15 : decode cX4_clearText 15 = .ok (.ireturn, 1) := by decide +kernel
theorem dX4_isAt_0 : decode cX4_isAt 0 = .ok (.aload_n 0, 1) := by decide +kernel
theorem dX4_isAt_1 : decode cX4_isAt 1 = .ok (.getfield 139, 3) := by decide +kernel
theorem dX4_isAt_4 : decode cX4_isAt 4 = .ok (.aload_n 0, 1) := by decide +kernel
theorem dX4_isAt_5 : decode cX4_isAt 5 = .ok (.getfield 136, 3) := by decide +kernel
theorem dX4_isAt_8 : decode cX4_isAt 8 = .ok (.if_icmp .ge 24, 3) := by decide +kernel
theorem dX4_isAt_11 : decode cX4_isAt 11 = .ok (.aload_n 0, 1) := by decide +kernel
theorem dX4_isAt_12 : decode cX4_isAt 12 = .ok (.getfield 22, 3) := by decide +kernel
theorem dX4_isAt_15 : decode cX4_isAt 15 = .ok (.aload_n 0, 1) := by decide +kernel
theorem dX4_isAt_16 : decode cX4_isAt 16 = .ok (.getfield 139, 3) := by decide +kernel
theorem dX4_isAt_19 : decode cX4_isAt 19 = .ok (.iaload, 1) := by decide +kernel
theorem dX4_isAt_20 : decode cX4_isAt 20 = .ok (.iload_n 1, 1) := by decide +kernel
theorem dX4_isAt_21 : decode cX4_isAt 21 = .ok (.iload_n 2, 1) := by decide +kernel
theorem dX4_isAt_22 : decode cX4_isAt 22 = .ok (.invokestatic 95, 3) := by decide +kernel
theorem dX4_isAt_25 : decode cX4_isAt 25 = .ok (.ifCond .eq 7, 3) := by decide +kernel
theorem dX4_isAt_28 : decode cX4_isAt 28 = .ok (.iconst 1, 1) := by decide +kernel
theorem dX4_isAt_29 : decode cX4_isAt 29 = .ok (.goto 4, 3) := by decide +kernel
theorem dX4_isAt_32 : decode cX4_isAt 32 = .ok (.iconst 0, 1) := by decide +kernel
theorem dX4_isAt_33 : decode cX4_isAt 33 = .ok (.ireturn, 1) := by decide +kernel
theorem dX4_readsChair_0 : decode cX4_readsChair 0 = .ok (.aload_n 0, 1) := by decide +kernel
theorem dX4_readsChair_1 : decode cX4_readsChair 1 = .ok (.getfield 7, 3) := by decide +kernel
theorem dX4_readsChair_4 : decode cX4_readsChair 4 = .ok (.bipush 7, 2) := by decide +kernel
theorem dX4_readsChair_6 : decode cX4_readsChair 6 = .ok (.iaload, 1) := by decide +kernel
theorem dX4_readsChair_7 : decode cX4_readsChair 7 = .ok (.bipush 14, 2) := by decide +kernel
theorem dX4_readsChair_9 : decode cX4_readsChair 9 = .ok (.if_icmp .ne 5, 3) := by decide +kernel
theorem dX4_readsChair_12 : decode cX4_readsChair 12 = .ok (.iconst 0, 1) := by decide +kernel
theorem dX4_readsChair_13 : decode cX4_readsChair 13 = .ok (.ireturn, 1) := by decide +kernel
theorem dX4_readsChair_14 : decode cX4_readsChair 14 = .ok (.aload_n 0, 1) := by decide +kernel
theorem dX4_readsChair_15 : decode cX4_readsChair 15 = .ok (.getfield 22, 3) := by decide +kernel
theorem dX4_readsChair_18 : decode cX4_readsChair 18 = .ok (.aload_n 0, 1) := by decide +kernel
theorem dX4_readsChair_19 : decode cX4_readsChair 19 = .ok (.getfield 139, 3) := by decide +kernel
theorem dX4_readsChair_22 : decode cX4_readsChair 22 = .ok (.iaload, 1) := by decide +kernel
theorem dX4_readsChair_23 : decode cX4_readsChair 23 = .ok (.bipush 48, 2) := by decide +kernel
theorem dX4_readsChair_25 : decode cX4_readsChair 25 = .ok (.isub, 1) := by decide +kernel
theorem dX4_readsChair_26 : decode cX4_readsChair 26 = .ok (.istore_n 2, 1) := by decide +kernel
theorem dX4_readsChair_27 : decode cX4_readsChair 27 = .ok (.iconst 0, 1) := by decide +kernel
theorem dX4_readsChair_28 : decode cX4_readsChair 28 = .ok (.istore_n 3, 1) := by decide +kernel
theorem dX4_readsChair_29 : decode cX4_readsChair 29 = .ok (.iconst 0, 1) := by decide +kernel
theorem dX4_readsChair_30 : decode cX4_readsChair 30 = .ok (.istore 4, 2) := by decide +kernel
theorem dX4_readsChair_32 : decode cX4_readsChair 32 = .ok (.aload_n 0, 1) := by decide +kernel
theorem dX4_readsChair_33 : decode cX4_readsChair 33 = .ok (.dup, 1) := by decide +kernel
theorem dX4_readsChair_34 : decode cX4_readsChair 34 = .ok (.getfield 139, 3) := by decide +kernel
theorem dX4_readsChair_37 : decode cX4_readsChair 37 = .ok (.iconst 1, 1) := by decide +kernel
theorem dX4_readsChair_38 : decode cX4_readsChair 38 = .ok (.iadd, 1) := by decide +kernel
theorem dX4_readsChair_39 : decode cX4_readsChair 39 = .ok (.putfield 139, 3) := by decide +kernel
theorem dX4_readsChair_42 : decode cX4_readsChair 42 = .ok (.aload_n 0, 1) := by decide +kernel
theorem dX4_readsChair_43 : decode cX4_readsChair 43 = .ok (.bipush 99, 2) := by decide +kernel
theorem dX4_readsChair_45 : decode cX4_readsChair 45 = .ok (.bipush 99, 2) := by decide +kernel
theorem dX4_readsChair_47 : decode cX4_readsChair 47 = .ok (.invokevirtual 142, 3) := by decide +kernel
theorem dX4_readsChair_50 : decode cX4_readsChair 50 = .ok (.ifCond .eq 15, 3) := by decide +kernel
theorem dX4_readsChair_53 : decode cX4_readsChair 53 = .ok (.iconst 1, 1) := by decide +kernel
theorem dX4_readsChair_54 : decode cX4_readsChair 54 = .ok (.istore_n 3, 1) := by decide +kernel
theorem dX4_readsChair_55 : decode cX4_readsChair 55 = .ok (.aload_n 0, 1) := by decide +kernel
theorem dX4_readsChair_56 : decode cX4_readsChair 56 = .ok (.dup, 1) := by decide +kernel
theorem dX4_readsChair_57 : decode cX4_readsChair 57 = .ok (.getfield 139, 3) := by decide +kernel
theorem dX4_readsChair_60 : decode cX4_readsChair 60 = .ok (.iconst 1, 1) := by decide +kernel
theorem dX4_readsChair_61 : decode cX4_readsChair 61 = .ok (.iadd, 1) := by decide +kernel
theorem dX4_readsChair_62 : decode cX4_readsChair 62 = .ok (.putfield 139, 3) := by decide +kernel
theorem dX4_readsChair_65 : decode cX4_readsChair 65 = .ok (.aload_n 0, 1) := by decide +kernel
theorem dX4_readsChair_66 : decode cX4_readsChair 66 = .ok (.bipush 43, 2) := by decide +kernel
theorem dX4_readsChair_68 : decode cX4_readsChair 68 = .ok (.bipush 43, 2) := by decide +kernel
theorem dX4_readsChair_70 : decode cX4_readsChair 70 = .ok (.invokevirtual 142, 3) := by decide +kernel
theorem dX4_readsChair_73 : decode cX4_readsChair 73 = .ok (.ifCond .eq 50, 3) := by decide +kernel
theorem dX4_readsChair_76 : decode cX4_readsChair 76 = .ok (.aload_n 0, 1) := by decide +kernel
theorem dX4_readsChair_77 : decode cX4_readsChair 77 = .ok (.dup, 1) := by decide +kernel
theorem dX4_readsChair_78 : decode cX4_readsChair 78 = .ok (.getfield 139, 3) := by decide +kernel
theorem dX4_readsChair_81 : decode cX4_readsChair 81 = .ok (.iconst 1, 1) := by decide +kernel
theorem dX4_readsChair_82 : decode cX4_readsChair 82 = .ok (.iadd, 1) := by decide +kernel
theorem dX4_readsChair_83 : decode cX4_readsChair 83 = .ok (.putfield 139, 3) := by decide +kernel
theorem dX4_readsChair_86 : decode cX4_readsChair 86 = .ok (.aload_n 0, 1) := by decide +kernel
theorem dX4_readsChair_87 : decode cX4_readsChair 87 = .ok (.bipush 48, 2) := by decide +kernel
theorem dX4_readsChair_89 : decode cX4_readsChair 89 = .ok (.bipush 57, 2) := by decide +kernel
theorem dX4_readsChair_91 : decode cX4_readsChair 91 = .ok (.invokevirtual 142, 3) := by decide +kernel
theorem dX4_readsChair_94 : decode cX4_readsChair 94 = .ok (.ifCond .ne 5, 3) := by decide +kernel
theorem dX4_readsChair_97 : decode cX4_readsChair 97 = .ok (.iconst 0, 1) := by decide +kernel
theorem dX4_readsChair_98 : decode cX4_readsChair 98 = .ok (.ireturn, 1) := by decide +kernel
theorem dX4_readsChair_99 : decode cX4_readsChair 99 = .ok (.aload_n 0, 1) := by decide +kernel
theorem dX4_readsChair_100 : decode cX4_readsChair 100 = .ok (.getfield 22, 3) := by decide +kernel
theorem dX4_readsChair_103 : decode cX4_readsChair 103 = .ok (.aload_n 0, 1) := by decide +kernel
theorem dX4_readsChair_104 : decode cX4_readsChair 104 = .ok (.getfield 139, 3) := by decide +kernel
theorem dX4_readsChair_107 : decode cX4_readsChair 107 = .ok (.iaload, 1) := by decide +kernel
theorem dX4_readsChair_108 : decode cX4_readsChair 108 = .ok (.bipush 48, 2) := by decide +kernel
theorem dX4_readsChair_110 : decode cX4_readsChair 110 = .ok (.isub, 1) := by decide +kernel
theorem dX4_readsChair_111 : decode cX4_readsChair 111 = .ok (.istore 4, 2) := by decide +kernel
theorem dX4_readsChair_113 : decode cX4_readsChair 113 = .ok (.aload_n 0, 1) := by decide +kernel
theorem dX4_readsChair_114 : decode cX4_readsChair 114 = .ok (.dup, 1) := by decide +kernel
theorem dX4_readsChair_115 : decode cX4_readsChair 115 = .ok (.getfield 139, 3) := by decide +kernel
theorem dX4_readsChair_118 : decode cX4_readsChair 118 = .ok (.iconst 1, 1) := by decide +kernel
theorem dX4_readsChair_119 : decode cX4_readsChair 119 = .ok (.iadd, 1) := by decide +kernel
theorem dX4_readsChair_120 : decode cX4_readsChair 120 = .ok (.putfield 139, 3) := by decide +kernel
theorem dX4_readsChair_123 : decode cX4_readsChair 123 = .ok (.aload_n 0, 1) := by decide +kernel
theorem dX4_readsChair_124 : decode cX4_readsChair 124 = .ok (.iload_n 1, 1) := by decide +kernel
theorem dX4_readsChair_125 : decode cX4_readsChair 125 = .ok (.iload_n 2, 1) := by decide +kernel
theorem dX4_readsChair_126 : decode cX4_readsChair 126 = .ok (.iload 4, 2) := by decide +kernel
theorem dX4_readsChair_128 : decode cX4_readsChair 128 = .ok (.iload_n 3, 1) := by decide +kernel
theorem dX4_readsChair_129 : decode cX4_readsChair 129 = .ok (.invokevirtual 102, 3) := by decide +kernel
theorem dX4_readsChair_132 : decode cX4_readsChair 132 = .ok (.iconst 1, 1) := by decide +kernel
theorem dX4_readsChair_133 : decode cX4_readsChair 133 = .ok (.ireturn, 1) := by decide +kernel
theorem dX4_readsLine_0 : decode cX4_readsLine 0 = .ok (.iconst 0, 1) := by decide +kernel
theorem dX4_readsLine_1 : decode cX4_readsLine 1 = .ok (.istore_n 1, 1) := by decide +kernel
theorem dX4_readsLine_2 : decode cX4_readsLine 2 = .ok (.aload_n 0, 1) := by decide +kernel
theorem dX4_readsLine_3 : decode cX4_readsLine 3 = .ok (.getfield 139, 3) := by decide +kernel
theorem dX4_readsLine_6 : decode cX4_readsLine 6 = .ok (.aload_n 0, 1) := by decide +kernel
theorem dX4_readsLine_7 : decode cX4_readsLine 7 = .ok (.getfield 136, 3) := by decide +kernel
theorem dX4_readsLine_10 : decode cX4_readsLine 10 = .ok (.if_icmp .ge 59, 3) := by decide +kernel
theorem dX4_readsLine_13 : decode cX4_readsLine 13 = .ok (.aload_n 0, 1) := by decide +kernel
theorem dX4_readsLine_14 : decode cX4_readsLine 14 = .ok (.bipush 49, 2) := by decide +kernel
theorem dX4_readsLine_16 : decode cX4_readsLine 16 = .ok (.bipush 52, 2) := by decide +kernel
theorem dX4_readsLine_18 : decode cX4_readsLine 18 = .ok (.invokevirtual 142, 3) := by decide +kernel
theorem dX4_readsLine_21 : decode cX4_readsLine 21 = .ok (.ifCond .eq 13, 3) := by decide +kernel
theorem dX4_readsLine_24 : decode cX4_readsLine 24 = .ok (.aload_n 0, 1) := by decide +kernel
theorem dX4_readsLine_25 : decode cX4_readsLine 25 = .ok (.iload_n 1, 1) := by decide +kernel
theorem dX4_readsLine_26 : decode cX4_readsLine 26 = .ok (.invokevirtual 146, 3) := by decide +kernel
theorem dX4_readsLine_29 : decode cX4_readsLine 29 = .ok (.ifCond .ne (-27), 3) := by decide +kernel
theorem dX4_readsLine_32 : decode cX4_readsLine 32 = .ok (.iconst 0, 1) := by decide +kernel
theorem dX4_readsLine_33 : decode cX4_readsLine 33 = .ok (.ireturn, 1) := by decide +kernel
theorem dX4_readsLine_34 : decode cX4_readsLine 34 = .ok (.aload_n 0, 1) := by decide +kernel
theorem dX4_readsLine_35 : decode cX4_readsLine 35 = .ok (.bipush 124, 2) := by decide +kernel
theorem dX4_readsLine_37 : decode cX4_readsLine 37 = .ok (.bipush 124, 2) := by decide +kernel
theorem dX4_readsLine_39 : decode cX4_readsLine 39 = .ok (.invokevirtual 142, 3) := by decide +kernel
theorem dX4_readsLine_42 : decode cX4_readsLine 42 = .ok (.ifCond .eq 25, 3) := by decide +kernel
theorem dX4_readsLine_45 : decode cX4_readsLine 45 = .ok (.iload_n 1, 1) := by decide +kernel
theorem dX4_readsLine_46 : decode cX4_readsLine 46 = .ok (.bipush 6, 2) := by decide +kernel
theorem dX4_readsLine_48 : decode cX4_readsLine 48 = .ok (.if_icmp .ge 19, 3) := by decide +kernel
theorem dX4_readsLine_51 : decode cX4_readsLine 51 = .ok (.iinc 1 1, 3) := by decide +kernel
theorem dX4_readsLine_54 : decode cX4_readsLine 54 = .ok (.aload_n 0, 1) := by decide +kernel
theorem dX4_readsLine_55 : decode cX4_readsLine 55 = .ok (.dup, 1) := by decide +kernel
theorem dX4_readsLine_56 : decode cX4_readsLine 56 = .ok (.getfield 139, 3) := by decide +kernel
theorem dX4_readsLine_59 : decode cX4_readsLine 59 = .ok (.iconst 1, 1) := by decide +kernel
theorem dX4_readsLine_60 : decode cX4_readsLine 60 = .ok (.iadd, 1) := by decide +kernel
theorem dX4_readsLine_61 : decode cX4_readsLine 61 = .ok (.putfield 139, 3) := by decide +kernel
theorem dX4_readsLine_64 : decode cX4_readsLine 64 = .ok (.goto (-62), 3) := by decide +kernel
theorem dX4_readsLine_67 : decode cX4_readsLine 67 = .ok (.iconst 0, 1) := by decide +kernel
theorem dX4_readsLine_68 : decode cX4_readsLine 68 = .ok (.ireturn, 1) := by decide +kernel
theorem dX4_readsLine_69 : decode cX4_readsLine 69 = .ok (.aload_n 0, 1) := by decide +kernel
theorem dX4_readsLine_70 : decode cX4_readsLine 70 = .ok (.getfield 7, 3) := by decide +kernel
theorem dX4_readsLine_73 : decode cX4_readsLine 73 = .ok (.iconst 0, 1) := by decide +kernel
theorem dX4_readsLine_74 : decode cX4_readsLine 74 = .ok (.iload_n 1, 1) := by decide +kernel
theorem dX4_readsLine_75 : decode cX4_readsLine 75 = .ok (.iconst 1, 1) := by decide +kernel
theorem dX4_readsLine_76 : decode cX4_readsLine 76 = .ok (.iadd, 1) := by decide +kernel
theorem dX4_readsLine_77 : decode cX4_readsLine 77 = .ok (.iastore, 1) := by decide +kernel
theorem dX4_readsLine_78 : decode cX4_readsLine 78 = .ok (.iload_n 1, 1) := by decide +kernel
theorem dX4_readsLine_79 : decode cX4_readsLine 79 = .ok (.ifCond .le 7, 3) := by decide +kernel
theorem dX4_readsLine_82 : decode cX4_readsLine 82 = .ok (.iconst 1, 1) := by decide +kernel
theorem dX4_readsLine_83 : decode cX4_readsLine 83 = .ok (.goto 4, 3) := by decide +kernel
theorem dX4_readsLine_86 : decode cX4_readsLine 86 = .ok (.iconst 0, 1) := by decide +kernel
theorem dX4_readsLine_87 : decode cX4_readsLine 87 = .ok (.ireturn, 1) := by decide +kernel
theorem dX4_parse_0 : decode cX4_parse 0 = .ok (.aload_n 0, 1) := by decide +kernel
theorem dX4_parse_1 : decode cX4_parse 1 = .ok (.invokevirtual 99, 3) := by decide +kernel
theorem dX4_parse_4 : decode cX4_parse 4 = .ok (.iconst 0, 1) := by decide +kernel
theorem dX4_parse_5 : decode cX4_parse 5 = .ok (.istore_n 1, 1) := by decide +kernel
theorem dX4_parse_6 : decode cX4_parse 6 = .ok (.iload_n 1, 1) := by decide +kernel
theorem dX4_parse_7 : decode cX4_parse 7 = .ok (.sipush 171, 3) := by decide +kernel
theorem dX4_parse_10 : decode cX4_parse 10 = .ok (.if_icmp .ge 30, 3) := by decide +kernel
theorem dX4_parse_13 : decode cX4_parse 13 = .ok (.aload_n 0, 1) := by decide +kernel
theorem dX4_parse_14 : decode cX4_parse 14 = .ok (.getfield 7, 3) := by decide +kernel
theorem dX4_parse_17 : decode cX4_parse 17 = .ok (.iload_n 1, 1) := by decide +kernel
theorem dX4_parse_18 : decode cX4_parse 18 = .ok (.iload_n 1, 1) := by decide +kernel
theorem dX4_parse_19 : decode cX4_parse 19 = .ok (.iconst 1, 1) := by decide +kernel
theorem dX4_parse_20 : decode cX4_parse 20 = .ok (.bipush 6, 2) := by decide +kernel
theorem dX4_parse_22 : decode cX4_parse 22 = .ok (.invokestatic 95, 3) := by decide +kernel
theorem dX4_parse_25 : decode cX4_parse 25 = .ok (.ifCond .eq 7, 3) := by decide +kernel
theorem dX4_parse_28 : decode cX4_parse 28 = .ok (.iconst 4, 1) := by decide +kernel
theorem dX4_parse_29 : decode cX4_parse 29 = .ok (.goto 4, 3) := by decide +kernel
theorem dX4_parse_32 : decode cX4_parse 32 = .ok (.iconst 0, 1) := by decide +kernel
theorem dX4_parse_33 : decode cX4_parse 33 = .ok (.iastore, 1) := by decide +kernel
theorem dX4_parse_34 : decode cX4_parse 34 = .ok (.iinc 1 1, 3) := by decide +kernel
theorem dX4_parse_37 : decode cX4_parse 37 = .ok (.goto (-31), 3) := by decide +kernel
theorem dX4_parse_40 : decode cX4_parse 40 = .ok (.aload_n 0, 1) := by decide +kernel
theorem dX4_parse_41 : decode cX4_parse 41 = .ok (.iconst 0, 1) := by decide +kernel
theorem dX4_parse_42 : decode cX4_parse 42 = .ok (.putfield 139, 3) := by decide +kernel
theorem dX4_parse_45 : decode cX4_parse 45 = .ok (.aload_n 0, 1) := by decide +kernel
theorem dX4_parse_46 : decode cX4_parse 46 = .ok (.invokevirtual 149, 3) := by decide +kernel
theorem dX4_parse_49 : decode cX4_parse 49 = .ok (.ifCond .ne 26, 3) := by decide +kernel
theorem dX4_parse_52 : decode cX4_parse 52 = .ok (.aload_n 0, 1) := by decide +kernel
theorem dX4_parse_53 : decode cX4_parse 53 = .ok (.getfield 7, 3) := by decide +kernel
theorem dX4_parse_56 : decode cX4_parse 56 = .ok (.aload_n 0, 1) := by decide +kernel
theorem dX4_parse_57 : decode cX4_parse 57 = .ok (.getfield 16, 3) := by decide +kernel
theorem dX4_parse_60 : decode cX4_parse 60 = .ok (.invokestatic 32, 3) := by decide +kernel
theorem dX4_parse_63 : decode cX4_parse 63 = .ok (.aload_n 0, 1) := by decide +kernel
theorem dX4_parse_64 : decode cX4_parse 64 = .ok (.bipush (-10), 2) := by decide +kernel
theorem dX4_parse_66 : decode cX4_parse 66 = .ok (.aload_n 0, 1) := by decide +kernel
theorem dX4_parse_67 : decode cX4_parse 67 = .ok (.getfield 139, 3) := by decide +kernel
theorem dX4_parse_70 : decode cX4_parse 70 = .ok (.isub, 1) := by decide +kernel
theorem dX4_parse_71 : decode cX4_parse 71 = .ok (.invokevirtual 39, 3) := by decide +kernel
theorem dX4_parse_74 : decode cX4_parse 74 = .ok (.ireturn, 1) := by decide +kernel
theorem dX4_parse_75 : decode cX4_parse 75 = .ok (.aload_n 0, 1) := by decide +kernel
theorem dX4_parse_76 : decode cX4_parse 76 = .ok (.aload_n 0, 1) := by decide +kernel
theorem dX4_parse_77 : decode cX4_parse 77 = .ok (.getfield 7, 3) := by decide +kernel
theorem dX4_parse_80 : decode cX4_parse 80 = .ok (.bipush 7, 2) := by decide +kernel
theorem dX4_parse_82 : decode cX4_parse 82 = .ok (.iaload, 1) := by decide +kernel
theorem dX4_parse_83 : decode cX4_parse 83 = .ok (.invokevirtual 106, 3) := by decide +kernel
theorem dX4_parse_86 : decode cX4_parse 86 = .ok (.ireturn, 1) := by decide +kernel
theorem dX4_undo_0 : decode cX4_undo 0 = .ok (.aload_n 0, 1) := by decide +kernel
theorem dX4_undo_1 : decode cX4_undo 1 = .ok (.getfield 36, 3) := by decide +kernel
theorem dX4_undo_4 : decode cX4_undo 4 = .ok (.ifCond .ne 9, 3) := by decide +kernel
theorem dX4_undo_7 : decode cX4_undo 7 = .ok (.aload_n 0, 1) := by decide +kernel
theorem dX4_undo_8 : decode cX4_undo 8 = .ok (.iconst 1, 1) := by decide +kernel
theorem dX4_undo_9 : decode cX4_undo 9 = .ok (.invokevirtual 92, 3) := by decide +kernel
theorem dX4_undo_12 : decode cX4_undo 12 = .ok (.ireturn, 1) := by decide +kernel
theorem dX4_undo_13 : decode cX4_undo 13 = .ok (.aload_n 0, 1) := by decide +kernel
theorem dX4_undo_14 : decode cX4_undo 14 = .ok (.dup, 1) := by decide +kernel
theorem dX4_undo_15 : decode cX4_undo 15 = .ok (.getfield 36, 3) := by decide +kernel
theorem dX4_undo_18 : decode cX4_undo 18 = .ok (.iconst 1, 1) := by decide +kernel
theorem dX4_undo_19 : decode cX4_undo 19 = .ok (.isub, 1) := by decide +kernel
theorem dX4_undo_20 : decode cX4_undo 20 = .ok (.putfield 36, 3) := by decide +kernel
theorem dX4_undo_23 : decode cX4_undo 23 = .ok (.iconst 0, 1) := by decide +kernel
theorem dX4_undo_24 : decode cX4_undo 24 = .ok (.istore_n 1, 1) := by decide +kernel
theorem dX4_undo_25 : decode cX4_undo 25 = .ok (.iload_n 1, 1) := by decide +kernel
theorem dX4_undo_26 : decode cX4_undo 26 = .ok (.sipush 171, 3) := by decide +kernel
theorem dX4_undo_29 : decode cX4_undo 29 = .ok (.if_icmp .ge 30, 3) := by decide +kernel
theorem dX4_undo_32 : decode cX4_undo 32 = .ok (.aload_n 0, 1) := by decide +kernel
theorem dX4_undo_33 : decode cX4_undo 33 = .ok (.getfield 7, 3) := by decide +kernel
theorem dX4_undo_36 : decode cX4_undo 36 = .ok (.iload_n 1, 1) := by decide +kernel
theorem dX4_undo_37 : decode cX4_undo 37 = .ok (.aload_n 0, 1) := by decide +kernel
theorem dX4_undo_38 : decode cX4_undo 38 = .ok (.getfield 13, 3) := by decide +kernel
theorem dX4_undo_41 : decode cX4_undo 41 = .ok (.sipush 171, 3) := by decide +kernel
theorem dX4_undo_44 : decode cX4_undo 44 = .ok (.aload_n 0, 1) := by decide +kernel
theorem dX4_undo_45 : decode cX4_undo 45 = .ok (.getfield 36, 3) := by decide +kernel
theorem dX4_undo_48 : decode cX4_undo 48 = .ok (.imul, 1) := by decide +kernel
theorem dX4_undo_49 : decode cX4_undo 49 = .ok (.iload_n 1, 1) := by decide +kernel
theorem dX4_undo_50 : decode cX4_undo 50 = .ok (.iadd, 1) := by decide +kernel
theorem dX4_undo_51 : decode cX4_undo 51 = .ok (.iaload, 1) := by decide +kernel
theorem dX4_undo_52 : decode cX4_undo 52 = .ok (.iastore, 1) := by decide +kernel
theorem dX4_undo_53 : decode cX4_undo 53 = .ok (.iinc 1 1, 3) := by decide +kernel
theorem dX4_undo_56 : decode cX4_undo 56 = .ok (.goto (-31), 3) := by decide +kernel
theorem dX4_undo_59 : decode cX4_undo 59 = .ok (.aload_n 0, 1) := by decide +kernel
theorem dX4_undo_60 : decode cX4_undo 60 = .ok (.aload_n 0, 1) := by decide +kernel
theorem dX4_undo_61 : decode cX4_undo 61 = .ok (.getfield 36, 3) := by decide +kernel
theorem dX4_undo_64 : decode cX4_undo 64 = .ok (.invokevirtual 39, 3) := by decide +kernel
theorem dX4_undo_67 : decode cX4_undo 67 = .ok (.ireturn, 1) := by decide +kernel
theorem dX4_mix_0 : decode cX4_mix 0 = .ok (.aload_n 0, 1) := by decide +kernel
theorem dX4_mix_1 : decode cX4_mix 1 = .ok (.ldc2_w 153, 3) := by decide +kernel
theorem dX4_mix_4 : decode cX4_mix 4 = .ok (.aload_n 0, 1) := by decide +kernel
theorem dX4_mix_5 : decode cX4_mix 5 = .ok (.getfield 155, 3) := by decide +kernel
theorem dX4_mix_8 : decode cX4_mix 8 = .ok (.lmul, 1) := by decide +kernel
theorem dX4_mix_9 : decode cX4_mix 9 = .ok (.iload_n 1, 1) := by decide +kernel
theorem dX4_mix_10 : decode cX4_mix 10 = .ok (.i2l, 1) := by decide +kernel
theorem dX4_mix_11 : decode cX4_mix 11 = .ok (.ladd, 1) := by decide +kernel
theorem dX4_mix_12 : decode cX4_mix 12 = .ok (.putfield 155, 3) := by decide +kernel
theorem dX4_mix_15 : decode cX4_mix 15 = .ok (.return_, 1) := by decide +kernel
theorem dX4_digest_0 : decode cX4_digest 0 = .ok (.aload_n 0, 1) := by decide +kernel
theorem dX4_digest_1 : decode cX4_digest 1 = .ok (.iconst 0, 1) := by decide +kernel
theorem dX4_digest_2 : decode cX4_digest 2 = .ok (.putfield 28, 3) := by decide +kernel
theorem dX4_digest_5 : decode cX4_digest 5 = .ok (.aload_n 0, 1) := by decide +kernel
theorem dX4_digest_6 : decode cX4_digest 6 = .ok (.invokevirtual 119, 3) := by decide +kernel
theorem dX4_digest_9 : decode cX4_digest 9 = .ok (.aload_n 0, 1) := by decide +kernel
theorem dX4_digest_10 : decode cX4_digest 10 = .ok (.ldc2_w 159, 3) := by decide +kernel
theorem dX4_digest_13 : decode cX4_digest 13 = .ok (.putfield 155, 3) := by decide +kernel
theorem dX4_digest_16 : decode cX4_digest 16 = .ok (.aload_n 0, 1) := by decide +kernel
theorem dX4_digest_17 : decode cX4_digest 17 = .ok (.aload_n 0, 1) := by decide +kernel
theorem dX4_digest_18 : decode cX4_digest 18 = .ok (.getfield 136, 3) := by decide +kernel
theorem dX4_digest_21 : decode cX4_digest 21 = .ok (.invokevirtual 161, 3) := by decide +kernel
theorem dX4_digest_24 : decode cX4_digest 24 = .ok (.iconst 0, 1) := by decide +kernel
theorem dX4_digest_25 : decode cX4_digest 25 = .ok (.istore_n 1, 1) := by decide +kernel
theorem dX4_digest_26 : decode cX4_digest 26 = .ok (.iload_n 1, 1) := by decide +kernel
theorem dX4_digest_27 : decode cX4_digest 27 = .ok (.bipush 12, 2) := by decide +kernel
theorem dX4_digest_29 : decode cX4_digest 29 = .ok (.if_icmp .ge 18, 3) := by decide +kernel
theorem dX4_digest_32 : decode cX4_digest 32 = .ok (.aload_n 0, 1) := by decide +kernel
theorem dX4_digest_33 : decode cX4_digest 33 = .ok (.aload_n 0, 1) := by decide +kernel
theorem dX4_digest_34 : decode cX4_digest 34 = .ok (.iload_n 1, 1) := by decide +kernel
theorem dX4_digest_35 : decode cX4_digest 35 = .ok (.invokevirtual 133, 3) := by decide +kernel
theorem dX4_digest_38 : decode cX4_digest 38 = .ok (.invokevirtual 161, 3) := by decide +kernel
theorem dX4_digest_41 : decode cX4_digest 41 = .ok (.iinc 1 1, 3) := by decide +kernel
theorem dX4_digest_44 : decode cX4_digest 44 = .ok (.goto (-18), 3) := by decide +kernel
theorem dX4_digest_47 : decode cX4_digest 47 = .ok (.iconst 0, 1) := by decide +kernel
theorem dX4_digest_48 : decode cX4_digest 48 = .ok (.istore_n 1, 1) := by decide +kernel
theorem dX4_digest_49 : decode cX4_digest 49 = .ok (.iload_n 1, 1) := by decide +kernel
theorem dX4_digest_50 : decode cX4_digest 50 = .ok (.aload_n 0, 1) := by decide +kernel
theorem dX4_digest_51 : decode cX4_digest 51 = .ok (.getfield 7, 3) := by decide +kernel
theorem dX4_digest_54 : decode cX4_digest 54 = .ok (.iconst 0, 1) := by decide +kernel
theorem dX4_digest_55 : decode cX4_digest 55 = .ok (.iaload, 1) := by decide +kernel
theorem dX4_digest_56 : decode cX4_digest 56 = .ok (.iconst 1, 1) := by decide +kernel
theorem dX4_digest_57 : decode cX4_digest 57 = .ok (.isub, 1) := by decide +kernel
theorem dX4_digest_58 : decode cX4_digest 58 = .ok (.if_icmp .ge 21, 3) := by decide +kernel
theorem dX4_digest_61 : decode cX4_digest 61 = .ok (.aload_n 0, 1) := by decide +kernel
theorem dX4_digest_62 : decode cX4_digest 62 = .ok (.aload_n 0, 1) := by decide +kernel
theorem dX4_digest_63 : decode cX4_digest 63 = .ok (.getfield 7, 3) := by decide +kernel
theorem dX4_digest_66 : decode cX4_digest 66 = .ok (.iconst 1, 1) := by decide +kernel
theorem dX4_digest_67 : decode cX4_digest 67 = .ok (.iload_n 1, 1) := by decide +kernel
theorem dX4_digest_68 : decode cX4_digest 68 = .ok (.iadd, 1) := by decide +kernel
theorem dX4_digest_69 : decode cX4_digest 69 = .ok (.iaload, 1) := by decide +kernel
theorem dX4_digest_70 : decode cX4_digest 70 = .ok (.invokevirtual 161, 3) := by decide +kernel
theorem dX4_digest_73 : decode cX4_digest 73 = .ok (.iinc 1 1, 3) := by decide +kernel
theorem dX4_digest_76 : decode cX4_digest 76 = .ok (.goto (-27), 3) := by decide +kernel
theorem dX4_digest_79 : decode cX4_digest 79 = .ok (.iconst 0, 1) := by decide +kernel
theorem dX4_digest_80 : decode cX4_digest 80 = .ok (.istore_n 1, 1) := by decide +kernel
theorem dX4_digest_81 : decode cX4_digest 81 = .ok (.iload_n 1, 1) := by decide +kernel
theorem dX4_digest_82 : decode cX4_digest 82 = .ok (.aload_n 0, 1) := by decide +kernel
theorem dX4_digest_83 : decode cX4_digest 83 = .ok (.getfield 7, 3) := by decide +kernel
theorem dX4_digest_86 : decode cX4_digest 86 = .ok (.bipush 7, 2) := by decide +kernel
theorem dX4_digest_88 : decode cX4_digest 88 = .ok (.iaload, 1) := by decide +kernel
theorem dX4_digest_89 : decode cX4_digest 89 = .ok (.if_icmp .ge 43, 3) := by decide +kernel
theorem dX4_digest_92 : decode cX4_digest 92 = .ok (.iconst 0, 1) := by decide +kernel
theorem dX4_digest_93 : decode cX4_digest 93 = .ok (.istore_n 2, 1) := by decide +kernel
theorem dX4_digest_94 : decode cX4_digest 94 = .ok (.iload_n 2, 1) := by decide +kernel
theorem dX4_digest_95 : decode cX4_digest 95 = .ok (.bipush 9, 2) := by decide +kernel
theorem dX4_digest_97 : decode cX4_digest 97 = .ok (.if_icmp .ge 19, 3) := by decide +kernel
theorem dX4_digest_100 : decode cX4_digest 100 = .ok (.aload_n 0, 1) := by decide +kernel
theorem dX4_digest_101 : decode cX4_digest 101 = .ok (.aload_n 0, 1) := by decide +kernel
theorem dX4_digest_102 : decode cX4_digest 102 = .ok (.iload_n 1, 1) := by decide +kernel
theorem dX4_digest_103 : decode cX4_digest 103 = .ok (.iload_n 2, 1) := by decide +kernel
theorem dX4_digest_104 : decode cX4_digest 104 = .ok (.invokevirtual 122, 3) := by decide +kernel
theorem dX4_digest_107 : decode cX4_digest 107 = .ok (.invokevirtual 161, 3) := by decide +kernel
theorem dX4_digest_110 : decode cX4_digest 110 = .ok (.iinc 2 1, 3) := by decide +kernel
theorem dX4_digest_113 : decode cX4_digest 113 = .ok (.goto (-19), 3) := by decide +kernel
theorem dX4_digest_116 : decode cX4_digest 116 = .ok (.aload_n 0, 1) := by decide +kernel
theorem dX4_digest_117 : decode cX4_digest 117 = .ok (.aload_n 0, 1) := by decide +kernel
theorem dX4_digest_118 : decode cX4_digest 118 = .ok (.getfield 25, 3) := by decide +kernel
theorem dX4_digest_121 : decode cX4_digest 121 = .ok (.iload_n 1, 1) := by decide +kernel
theorem dX4_digest_122 : decode cX4_digest 122 = .ok (.iaload, 1) := by decide +kernel
theorem dX4_digest_123 : decode cX4_digest 123 = .ok (.invokevirtual 161, 3) := by decide +kernel
theorem dX4_digest_126 : decode cX4_digest 126 = .ok (.iinc 1 1, 3) := by decide +kernel
theorem dX4_digest_129 : decode cX4_digest 129 = .ok (.goto (-48), 3) := by decide +kernel
theorem dX4_digest_132 : decode cX4_digest 132 = .ok (.iconst 0, 1) := by decide +kernel
theorem dX4_digest_133 : decode cX4_digest 133 = .ok (.istore_n 1, 1) := by decide +kernel
theorem dX4_digest_134 : decode cX4_digest 134 = .ok (.iload_n 1, 1) := by decide +kernel
theorem dX4_digest_135 : decode cX4_digest 135 = .ok (.bipush 8, 2) := by decide +kernel
theorem dX4_digest_137 : decode cX4_digest 137 = .ok (.aload_n 0, 1) := by decide +kernel
theorem dX4_digest_138 : decode cX4_digest 138 = .ok (.getfield 7, 3) := by decide +kernel
theorem dX4_digest_141 : decode cX4_digest 141 = .ok (.bipush 8, 2) := by decide +kernel
theorem dX4_digest_143 : decode cX4_digest 143 = .ok (.iaload, 1) := by decide +kernel
theorem dX4_digest_144 : decode cX4_digest 144 = .ok (.imul, 1) := by decide +kernel
theorem dX4_digest_145 : decode cX4_digest 145 = .ok (.if_icmp .ge 22, 3) := by decide +kernel
theorem dX4_digest_148 : decode cX4_digest 148 = .ok (.aload_n 0, 1) := by decide +kernel
theorem dX4_digest_149 : decode cX4_digest 149 = .ok (.aload_n 0, 1) := by decide +kernel
theorem dX4_digest_150 : decode cX4_digest 150 = .ok (.getfield 7, 3) := by decide +kernel
theorem dX4_digest_153 : decode cX4_digest 153 = .ok (.bipush 125, 2) := by decide +kernel
theorem dX4_digest_155 : decode cX4_digest 155 = .ok (.iload_n 1, 1) := by decide +kernel
theorem dX4_digest_156 : decode cX4_digest 156 = .ok (.iadd, 1) := by decide +kernel
theorem dX4_digest_157 : decode cX4_digest 157 = .ok (.iaload, 1) := by decide +kernel
theorem dX4_digest_158 : decode cX4_digest 158 = .ok (.invokevirtual 161, 3) := by decide +kernel
theorem dX4_digest_161 : decode cX4_digest 161 = .ok (.iinc 1 1, 3) := by decide +kernel
theorem dX4_digest_164 : decode cX4_digest 164 = .ok (.goto (-30), 3) := by decide +kernel
theorem dX4_digest_167 : decode cX4_digest 167 = .ok (.iconst 0, 1) := by decide +kernel
theorem dX4_digest_168 : decode cX4_digest 168 = .ok (.istore_n 1, 1) := by decide +kernel
theorem dX4_digest_169 : decode cX4_digest 169 = .ok (.iload_n 1, 1) := by decide +kernel
theorem dX4_digest_170 : decode cX4_digest 170 = .ok (.aload_n 0, 1) := by decide +kernel
theorem dX4_digest_171 : decode cX4_digest 171 = .ok (.getfield 7, 3) := by decide +kernel
theorem dX4_digest_174 : decode cX4_digest 174 = .ok (.bipush 12, 2) := by decide +kernel
theorem dX4_digest_176 : decode cX4_digest 176 = .ok (.iaload, 1) := by decide +kernel
theorem dX4_digest_177 : decode cX4_digest 177 = .ok (.if_icmp .ge 23, 3) := by decide +kernel
theorem dX4_digest_180 : decode cX4_digest 180 = .ok (.aload_n 0, 1) := by decide +kernel
theorem dX4_digest_181 : decode cX4_digest 181 = .ok (.aload_n 0, 1) := by decide +kernel
theorem dX4_digest_182 : decode cX4_digest 182 = .ok (.getfield 7, 3) := by decide +kernel
theorem dX4_digest_185 : decode cX4_digest 185 = .ok (.sipush 157, 3) := by decide +kernel
theorem dX4_digest_188 : decode cX4_digest 188 = .ok (.iload_n 1, 1) := by decide +kernel
theorem dX4_digest_189 : decode cX4_digest 189 = .ok (.iadd, 1) := by decide +kernel
theorem dX4_digest_190 : decode cX4_digest 190 = .ok (.iaload, 1) := by decide +kernel
theorem dX4_digest_191 : decode cX4_digest 191 = .ok (.invokevirtual 161, 3) := by decide +kernel
theorem dX4_digest_194 : decode cX4_digest 194 = .ok (.iinc 1 1, 3) := by decide +kernel
theorem dX4_digest_197 : decode cX4_digest 197 = .ok (.goto (-28), 3) := by decide +kernel
theorem dX4_digest_200 : decode cX4_digest 200 = .ok (.aload_n 0, 1) := by decide +kernel
theorem dX4_digest_201 : decode cX4_digest 201 = .ok (.aload_n 0, 1) := by decide +kernel
theorem dX4_digest_202 : decode cX4_digest 202 = .ok (.getfield 82, 3) := by decide +kernel
theorem dX4_digest_205 : decode cX4_digest 205 = .ok (.invokevirtual 161, 3) := by decide +kernel
theorem dX4_digest_208 : decode cX4_digest 208 = .ok (.aload_n 0, 1) := by decide +kernel
theorem dX4_digest_209 : decode cX4_digest 209 = .ok (.aload_n 0, 1) := by decide +kernel
theorem dX4_digest_210 : decode cX4_digest 210 = .ok (.getfield 36, 3) := by decide +kernel
theorem dX4_digest_213 : decode cX4_digest 213 = .ok (.invokevirtual 161, 3) := by decide +kernel
theorem dX4_digest_216 : decode cX4_digest 216 = .ok (.aload_n 0, 1) := by decide +kernel
theorem dX4_digest_217 : decode cX4_digest 217 = .ok (.getfield 155, 3) := by decide +kernel
theorem dX4_digest_220 : decode cX4_digest 220 = .ok (.lreturn, 1) := by decide +kernel
theorem dJ9_max_7cf53_0 : decode cJ9_max_7cf53 0 = .ok (.iload_n 0, 1) := by decide +kernel
theorem dJ9_max_7cf53_1 : decode cJ9_max_7cf53 1 = .ok (.iload_n 1, 1) := by decide +kernel
theorem dJ9_max_7cf53_2 : decode cJ9_max_7cf53 2 = .ok (.if_icmp .lt 7, 3) := by decide +kernel
theorem dJ9_max_7cf53_5 : decode cJ9_max_7cf53 5 = .ok (.iload_n 0, 1) := by decide +kernel
theorem dJ9_max_7cf53_6 : decode cJ9_max_7cf53 6 = .ok (.goto 4, 3) := by decide +kernel
theorem dJ9_max_7cf53_9 : decode cJ9_max_7cf53 9 = .ok (.iload_n 1, 1) := by decide +kernel
theorem dJ9_max_7cf53_10 : decode cJ9_max_7cf53 10 = .ok (.ireturn, 1) := by decide +kernel
theorem dJ9_min_7cf53_0 : decode cJ9_min_7cf53 0 = .ok (.iload_n 0, 1) := by decide +kernel
theorem dJ9_min_7cf53_1 : decode cJ9_min_7cf53 1 = .ok (.iload_n 1, 1) := by decide +kernel
theorem dJ9_min_7cf53_2 : decode cJ9_min_7cf53 2 = .ok (.if_icmp .gt 7, 3) := by decide +kernel
theorem dJ9_min_7cf53_5 : decode cJ9_min_7cf53 5 = .ok (.iload_n 0, 1) := by decide +kernel
theorem dJ9_min_7cf53_6 : decode cJ9_min_7cf53 6 = .ok (.goto 4, 3) := by decide +kernel
theorem dJ9_min_7cf53_9 : decode cJ9_min_7cf53 9 = .ok (.iload_n 1, 1) := by decide +kernel
theorem dJ9_min_7cf53_10 : decode cJ9_min_7cf53 10 = .ok (.ireturn, 1) := by decide +kernel
theorem dL_addChair_0 : decode cL_addChair 0 = .ok (.aload 5, 2) := by decide +kernel
theorem dL_addChair_2 : decode cL_addChair 2 = .ok (.iconst 0, 1) := by decide +kernel
theorem dL_addChair_3 : decode cL_addChair 3 = .ok (.aload_n 0, 1) := by decide +kernel
theorem dL_addChair_4 : decode cL_addChair 4 = .ok (.iload_n 1, 1) := by decide +kernel
theorem dL_addChair_5 : decode cL_addChair 5 = .ok (.iload_n 2, 1) := by decide +kernel
theorem dL_addChair_6 : decode cL_addChair 6 = .ok (.iload_n 3, 1) := by decide +kernel
theorem dL_addChair_7 : decode cL_addChair 7 = .ok (.iload 4, 2) := by decide +kernel
theorem dL_addChair_9 : decode cL_addChair 9 = .ok (.invokevirtual 7, 3) := by decide +kernel
theorem dL_addChair_12 : decode cL_addChair 12 = .ok (.i2l, 1) := by decide +kernel
theorem dL_addChair_13 : decode cL_addChair 13 = .ok (.lastore, 1) := by decide +kernel
theorem dL_addChair_14 : decode cL_addChair 14 = .ok (.goto 15, 3) := by decide +kernel
theorem dL_addChair_17 : decode cL_addChair 17 = .ok (.astore 6, 2) := by decide +kernel
theorem dL_addChair_19 : decode cL_addChair 19 = .ok (.iconst 1, 1) := by decide +kernel
theorem dL_addChair_20 : decode cL_addChair 20 = .ok (.ireturn, 1) := by decide +kernel
theorem dL_addChair_21 : decode cL_addChair 21 = .ok (.astore 6, 2) := by decide +kernel
theorem dL_addChair_23 : decode cL_addChair 23 = .ok (.iconst 2, 1) := by decide +kernel
theorem dL_addChair_24 : decode cL_addChair 24 = .ok (.ireturn, 1) := by decide +kernel
theorem dL_addChair_25 : decode cL_addChair 25 = .ok (.astore 6, 2) := by decide +kernel
theorem dL_addChair_27 : decode cL_addChair 27 = .ok (.iconst 3, 1) := by decide +kernel
theorem dL_addChair_28 : decode cL_addChair 28 = .ok (.ireturn, 1) := by decide +kernel
theorem dL_addChair_29 : decode cL_addChair 29 = .ok (.iconst 0, 1) := by decide +kernel
theorem dL_addChair_30 : decode cL_addChair 30 = .ok (.ireturn, 1) := by decide +kernel
theorem dL_addTeam_0 : decode cL_addTeam 0 = .ok (.aload_n 3, 1) := by decide +kernel
theorem dL_addTeam_1 : decode cL_addTeam 1 = .ok (.iconst 0, 1) := by decide +kernel
theorem dL_addTeam_2 : decode cL_addTeam 2 = .ok (.aload_n 0, 1) := by decide +kernel
theorem dL_addTeam_3 : decode cL_addTeam 3 = .ok (.iload_n 1, 1) := by decide +kernel
theorem dL_addTeam_4 : decode cL_addTeam 4 = .ok (.iload_n 2, 1) := by decide +kernel
theorem dL_addTeam_5 : decode cL_addTeam 5 = .ok (.invokevirtual 19, 3) := by decide +kernel
theorem dL_addTeam_8 : decode cL_addTeam 8 = .ok (.i2l, 1) := by decide +kernel
theorem dL_addTeam_9 : decode cL_addTeam 9 = .ok (.lastore, 1) := by decide +kernel
theorem dL_addTeam_10 : decode cL_addTeam 10 = .ok (.goto 15, 3) := by decide +kernel
theorem dL_addTeam_13 : decode cL_addTeam 13 = .ok (.astore 4, 2) := by decide +kernel
theorem dL_addTeam_15 : decode cL_addTeam 15 = .ok (.iconst 1, 1) := by decide +kernel
theorem dL_addTeam_16 : decode cL_addTeam 16 = .ok (.ireturn, 1) := by decide +kernel
theorem dL_addTeam_17 : decode cL_addTeam 17 = .ok (.astore 4, 2) := by decide +kernel
theorem dL_addTeam_19 : decode cL_addTeam 19 = .ok (.iconst 2, 1) := by decide +kernel
theorem dL_addTeam_20 : decode cL_addTeam 20 = .ok (.ireturn, 1) := by decide +kernel
theorem dL_addTeam_21 : decode cL_addTeam 21 = .ok (.astore 4, 2) := by decide +kernel
theorem dL_addTeam_23 : decode cL_addTeam 23 = .ok (.iconst 3, 1) := by decide +kernel
theorem dL_addTeam_24 : decode cL_addTeam 24 = .ok (.ireturn, 1) := by decide +kernel
theorem dL_addTeam_25 : decode cL_addTeam 25 = .ok (.iconst 0, 1) := by decide +kernel
theorem dL_addTeam_26 : decode cL_addTeam 26 = .ok (.ireturn, 1) := by decide +kernel
theorem dL_setWay_0 : decode cL_setWay 0 = .ok (.aload_n 3, 1) := by decide +kernel
theorem dL_setWay_1 : decode cL_setWay 1 = .ok (.iconst 0, 1) := by decide +kernel
theorem dL_setWay_2 : decode cL_setWay 2 = .ok (.aload_n 0, 1) := by decide +kernel
theorem dL_setWay_3 : decode cL_setWay 3 = .ok (.iload_n 1, 1) := by decide +kernel
theorem dL_setWay_4 : decode cL_setWay 4 = .ok (.iload_n 2, 1) := by decide +kernel
theorem dL_setWay_5 : decode cL_setWay 5 = .ok (.invokevirtual 23, 3) := by decide +kernel
theorem dL_setWay_8 : decode cL_setWay 8 = .ok (.i2l, 1) := by decide +kernel
theorem dL_setWay_9 : decode cL_setWay 9 = .ok (.lastore, 1) := by decide +kernel
theorem dL_setWay_10 : decode cL_setWay 10 = .ok (.goto 11, 3) := by decide +kernel
theorem dL_setWay_13 : decode cL_setWay 13 = .ok (.astore 4, 2) := by decide +kernel
theorem dL_setWay_15 : decode cL_setWay 15 = .ok (.iconst 1, 1) := by decide +kernel
theorem dL_setWay_16 : decode cL_setWay 16 = .ok (.ireturn, 1) := by decide +kernel
theorem dL_setWay_17 : decode cL_setWay 17 = .ok (.astore 4, 2) := by decide +kernel
theorem dL_setWay_19 : decode cL_setWay 19 = .ok (.iconst 2, 1) := by decide +kernel
theorem dL_setWay_20 : decode cL_setWay 20 = .ok (.ireturn, 1) := by decide +kernel
theorem dL_setWay_21 : decode cL_setWay 21 = .ok (.iconst 0, 1) := by decide +kernel
theorem dL_setWay_22 : decode cL_setWay 22 = .ok (.ireturn, 1) := by decide +kernel
theorem dL_setCold_0 : decode cL_setCold 0 = .ok (.aload_n 3, 1) := by decide +kernel
theorem dL_setCold_1 : decode cL_setCold 1 = .ok (.iconst 0, 1) := by decide +kernel
theorem dL_setCold_2 : decode cL_setCold 2 = .ok (.aload_n 0, 1) := by decide +kernel
theorem dL_setCold_3 : decode cL_setCold 3 = .ok (.iload_n 1, 1) := by decide +kernel
theorem dL_setCold_4 : decode cL_setCold 4 = .ok (.iload_n 2, 1) := by decide +kernel
theorem dL_setCold_5 : decode cL_setCold 5 = .ok (.invokevirtual 26, 3) := by decide +kernel
theorem dL_setCold_8 : decode cL_setCold 8 = .ok (.i2l, 1) := by decide +kernel
theorem dL_setCold_9 : decode cL_setCold 9 = .ok (.lastore, 1) := by decide +kernel
theorem dL_setCold_10 : decode cL_setCold 10 = .ok (.goto 15, 3) := by decide +kernel
theorem dL_setCold_13 : decode cL_setCold 13 = .ok (.astore 4, 2) := by decide +kernel
theorem dL_setCold_15 : decode cL_setCold 15 = .ok (.iconst 1, 1) := by decide +kernel
theorem dL_setCold_16 : decode cL_setCold 16 = .ok (.ireturn, 1) := by decide +kernel
theorem dL_setCold_17 : decode cL_setCold 17 = .ok (.astore 4, 2) := by decide +kernel
theorem dL_setCold_19 : decode cL_setCold 19 = .ok (.iconst 2, 1) := by decide +kernel
theorem dL_setCold_20 : decode cL_setCold 20 = .ok (.ireturn, 1) := by decide +kernel
theorem dL_setCold_21 : decode cL_setCold 21 = .ok (.astore 4, 2) := by decide +kernel
theorem dL_setCold_23 : decode cL_setCold 23 = .ok (.iconst 3, 1) := by decide +kernel
theorem dL_setCold_24 : decode cL_setCold 24 = .ok (.ireturn, 1) := by decide +kernel
theorem dL_setCold_25 : decode cL_setCold 25 = .ok (.iconst 0, 1) := by decide +kernel
theorem dL_setCold_26 : decode cL_setCold 26 = .ok (.ireturn, 1) := by decide +kernel
theorem dL_callOff_0 : decode cL_callOff 0 = .ok (.aload_n 2, 1) := by decide +kernel
theorem dL_callOff_1 : decode cL_callOff 1 = .ok (.iconst 0, 1) := by decide +kernel
theorem dL_callOff_2 : decode cL_callOff 2 = .ok (.aload_n 0, 1) := by decide +kernel
theorem dL_callOff_3 : decode cL_callOff 3 = .ok (.iload_n 1, 1) := by decide +kernel
theorem dL_callOff_4 : decode cL_callOff 4 = .ok (.invokevirtual 29, 3) := by decide +kernel
theorem dL_callOff_7 : decode cL_callOff 7 = .ok (.i2l, 1) := by decide +kernel
theorem dL_callOff_8 : decode cL_callOff 8 = .ok (.lastore, 1) := by decide +kernel
theorem dL_callOff_9 : decode cL_callOff 9 = .ok (.goto 6, 3) := by decide +kernel
theorem dL_callOff_12 : decode cL_callOff 12 = .ok (.astore_n 3, 1) := by decide +kernel
theorem dL_callOff_13 : decode cL_callOff 13 = .ok (.iconst 1, 1) := by decide +kernel
theorem dL_callOff_14 : decode cL_callOff 14 = .ok (.ireturn, 1) := by decide +kernel
theorem dL_callOff_15 : decode cL_callOff 15 = .ok (.iconst 0, 1) := by decide +kernel
theorem dL_callOff_16 : decode cL_callOff 16 = .ok (.ireturn, 1) := by decide +kernel
theorem dL_pass_0 : decode cL_pass 0 = .ok (.aload_n 2, 1) := by decide +kernel
theorem dL_pass_1 : decode cL_pass 1 = .ok (.iconst 0, 1) := by decide +kernel
theorem dL_pass_2 : decode cL_pass 2 = .ok (.aload_n 0, 1) := by decide +kernel
theorem dL_pass_3 : decode cL_pass 3 = .ok (.iload_n 1, 1) := by decide +kernel
theorem dL_pass_4 : decode cL_pass 4 = .ok (.invokevirtual 33, 3) := by decide +kernel
theorem dL_pass_7 : decode cL_pass 7 = .ok (.i2l, 1) := by decide +kernel
theorem dL_pass_8 : decode cL_pass 8 = .ok (.lastore, 1) := by decide +kernel
theorem dL_pass_9 : decode cL_pass 9 = .ok (.goto 9, 3) := by decide +kernel
theorem dL_pass_12 : decode cL_pass 12 = .ok (.astore_n 3, 1) := by decide +kernel
theorem dL_pass_13 : decode cL_pass 13 = .ok (.iconst 1, 1) := by decide +kernel
theorem dL_pass_14 : decode cL_pass 14 = .ok (.ireturn, 1) := by decide +kernel
theorem dL_pass_15 : decode cL_pass 15 = .ok (.astore_n 3, 1) := by decide +kernel
theorem dL_pass_16 : decode cL_pass 16 = .ok (.iconst 2, 1) := by decide +kernel
theorem dL_pass_17 : decode cL_pass 17 = .ok (.ireturn, 1) := by decide +kernel
theorem dL_pass_18 : decode cL_pass 18 = .ok (.iconst 0, 1) := by decide +kernel
theorem dL_pass_19 : decode cL_pass 19 = .ok (.ireturn, 1) := by decide +kernel
theorem dL_chair_0 : decode cL_chair 0 = .ok (.aload_n 3, 1) := by decide +kernel
theorem dL_chair_1 : decode cL_chair 1 = .ok (.iconst 0, 1) := by decide +kernel
theorem dL_chair_2 : decode cL_chair 2 = .ok (.aload_n 0, 1) := by decide +kernel
theorem dL_chair_3 : decode cL_chair 3 = .ok (.iload_n 1, 1) := by decide +kernel
theorem dL_chair_4 : decode cL_chair 4 = .ok (.iload_n 2, 1) := by decide +kernel
theorem dL_chair_5 : decode cL_chair 5 = .ok (.invokevirtual 36, 3) := by decide +kernel
theorem dL_chair_8 : decode cL_chair 8 = .ok (.i2l, 1) := by decide +kernel
theorem dL_chair_9 : decode cL_chair 9 = .ok (.lastore, 1) := by decide +kernel
theorem dL_chair_10 : decode cL_chair 10 = .ok (.goto 11, 3) := by decide +kernel
theorem dL_chair_13 : decode cL_chair 13 = .ok (.astore 4, 2) := by decide +kernel
theorem dL_chair_15 : decode cL_chair 15 = .ok (.iconst 1, 1) := by decide +kernel
theorem dL_chair_16 : decode cL_chair 16 = .ok (.ireturn, 1) := by decide +kernel
theorem dL_chair_17 : decode cL_chair 17 = .ok (.astore 4, 2) := by decide +kernel
theorem dL_chair_19 : decode cL_chair 19 = .ok (.iconst 2, 1) := by decide +kernel
theorem dL_chair_20 : decode cL_chair 20 = .ok (.ireturn, 1) := by decide +kernel
theorem dL_chair_21 : decode cL_chair 21 = .ok (.iconst 0, 1) := by decide +kernel
theorem dL_chair_22 : decode cL_chair 22 = .ok (.ireturn, 1) := by decide +kernel
theorem dL_team_0 : decode cL_team 0 = .ok (.aload_n 3, 1) := by decide +kernel
theorem dL_team_1 : decode cL_team 1 = .ok (.iconst 0, 1) := by decide +kernel
theorem dL_team_2 : decode cL_team 2 = .ok (.aload_n 0, 1) := by decide +kernel
theorem dL_team_3 : decode cL_team 3 = .ok (.iload_n 1, 1) := by decide +kernel
theorem dL_team_4 : decode cL_team 4 = .ok (.iload_n 2, 1) := by decide +kernel
theorem dL_team_5 : decode cL_team 5 = .ok (.invokevirtual 39, 3) := by decide +kernel
theorem dL_team_8 : decode cL_team 8 = .ok (.i2l, 1) := by decide +kernel
theorem dL_team_9 : decode cL_team 9 = .ok (.lastore, 1) := by decide +kernel
theorem dL_team_10 : decode cL_team 10 = .ok (.goto 11, 3) := by decide +kernel
theorem dL_team_13 : decode cL_team 13 = .ok (.astore 4, 2) := by decide +kernel
theorem dL_team_15 : decode cL_team 15 = .ok (.iconst 1, 1) := by decide +kernel
theorem dL_team_16 : decode cL_team 16 = .ok (.ireturn, 1) := by decide +kernel
theorem dL_team_17 : decode cL_team 17 = .ok (.astore 4, 2) := by decide +kernel
theorem dL_team_19 : decode cL_team 19 = .ok (.iconst 2, 1) := by decide +kernel
theorem dL_team_20 : decode cL_team 20 = .ok (.ireturn, 1) := by decide +kernel
theorem dL_team_21 : decode cL_team 21 = .ok (.iconst 0, 1) := by decide +kernel
theorem dL_team_22 : decode cL_team 22 = .ok (.ireturn, 1) := by decide +kernel
theorem dL_value_0 : decode cL_value 0 = .ok (.aload_n 2, 1) := by decide +kernel
theorem dL_value_1 : decode cL_value 1 = .ok (.iconst 0, 1) := by decide +kernel
theorem dL_value_2 : decode cL_value 2 = .ok (.aload_n 0, 1) := by decide +kernel
theorem dL_value_3 : decode cL_value 3 = .ok (.iload_n 1, 1) := by decide +kernel
theorem dL_value_4 : decode cL_value 4 = .ok (.invokevirtual 42, 3) := by decide +kernel
theorem dL_value_7 : decode cL_value 7 = .ok (.i2l, 1) := by decide +kernel
theorem dL_value_8 : decode cL_value 8 = .ok (.lastore, 1) := by decide +kernel
theorem dL_value_9 : decode cL_value 9 = .ok (.goto 6, 3) := by decide +kernel
theorem dL_value_12 : decode cL_value 12 = .ok (.astore_n 3, 1) := by decide +kernel
theorem dL_value_13 : decode cL_value 13 = .ok (.iconst 1, 1) := by decide +kernel
theorem dL_value_14 : decode cL_value 14 = .ok (.ireturn, 1) := by decide +kernel
theorem dL_value_15 : decode cL_value 15 = .ok (.iconst 0, 1) := by decide +kernel
theorem dL_value_16 : decode cL_value 16 = .ok (.ireturn, 1) := by decide +kernel
theorem dL_way_0 : decode cL_way 0 = .ok (.aload_n 3, 1) := by decide +kernel
theorem dL_way_1 : decode cL_way 1 = .ok (.iconst 0, 1) := by decide +kernel
theorem dL_way_2 : decode cL_way 2 = .ok (.aload_n 0, 1) := by decide +kernel
theorem dL_way_3 : decode cL_way 3 = .ok (.iload_n 1, 1) := by decide +kernel
theorem dL_way_4 : decode cL_way 4 = .ok (.iload_n 2, 1) := by decide +kernel
theorem dL_way_5 : decode cL_way 5 = .ok (.invokevirtual 45, 3) := by decide +kernel
theorem dL_way_8 : decode cL_way 8 = .ok (.i2l, 1) := by decide +kernel
theorem dL_way_9 : decode cL_way 9 = .ok (.lastore, 1) := by decide +kernel
theorem dL_way_10 : decode cL_way 10 = .ok (.goto 7, 3) := by decide +kernel
theorem dL_way_13 : decode cL_way 13 = .ok (.astore 4, 2) := by decide +kernel
theorem dL_way_15 : decode cL_way 15 = .ok (.iconst 1, 1) := by decide +kernel
theorem dL_way_16 : decode cL_way 16 = .ok (.ireturn, 1) := by decide +kernel
theorem dL_way_17 : decode cL_way 17 = .ok (.iconst 0, 1) := by decide +kernel
theorem dL_way_18 : decode cL_way 18 = .ok (.ireturn, 1) := by decide +kernel
theorem dL_work_0 : decode cL_work 0 = .ok (.aload_n 3, 1) := by decide +kernel
theorem dL_work_1 : decode cL_work 1 = .ok (.iconst 0, 1) := by decide +kernel
theorem dL_work_2 : decode cL_work 2 = .ok (.aload_n 0, 1) := by decide +kernel
theorem dL_work_3 : decode cL_work 3 = .ok (.iload_n 1, 1) := by decide +kernel
theorem dL_work_4 : decode cL_work 4 = .ok (.iload_n 2, 1) := by decide +kernel
theorem dL_work_5 : decode cL_work 5 = .ok (.invokevirtual 48, 3) := by decide +kernel
theorem dL_work_8 : decode cL_work 8 = .ok (.i2l, 1) := by decide +kernel
theorem dL_work_9 : decode cL_work 9 = .ok (.lastore, 1) := by decide +kernel
theorem dL_work_10 : decode cL_work 10 = .ok (.goto 7, 3) := by decide +kernel
theorem dL_work_13 : decode cL_work 13 = .ok (.astore 4, 2) := by decide +kernel
theorem dL_work_15 : decode cL_work 15 = .ok (.iconst 1, 1) := by decide +kernel
theorem dL_work_16 : decode cL_work 16 = .ok (.ireturn, 1) := by decide +kernel
theorem dL_work_17 : decode cL_work 17 = .ok (.iconst 0, 1) := by decide +kernel
theorem dL_work_18 : decode cL_work 18 = .ok (.ireturn, 1) := by decide +kernel
theorem dL_journal_0 : decode cL_journal 0 = .ok (.aload_n 2, 1) := by decide +kernel
theorem dL_journal_1 : decode cL_journal 1 = .ok (.iconst 0, 1) := by decide +kernel
theorem dL_journal_2 : decode cL_journal 2 = .ok (.aload_n 0, 1) := by decide +kernel
theorem dL_journal_3 : decode cL_journal 3 = .ok (.iload_n 1, 1) := by decide +kernel
theorem dL_journal_4 : decode cL_journal 4 = .ok (.invokevirtual 51, 3) := by decide +kernel
theorem dL_journal_7 : decode cL_journal 7 = .ok (.i2l, 1) := by decide +kernel
theorem dL_journal_8 : decode cL_journal 8 = .ok (.lastore, 1) := by decide +kernel
theorem dL_journal_9 : decode cL_journal 9 = .ok (.goto 6, 3) := by decide +kernel
theorem dL_journal_12 : decode cL_journal 12 = .ok (.astore_n 3, 1) := by decide +kernel
theorem dL_journal_13 : decode cL_journal 13 = .ok (.iconst 1, 1) := by decide +kernel
theorem dL_journal_14 : decode cL_journal 14 = .ok (.ireturn, 1) := by decide +kernel
theorem dL_journal_15 : decode cL_journal 15 = .ok (.iconst 0, 1) := by decide +kernel
theorem dL_journal_16 : decode cL_journal 16 = .ok (.ireturn, 1) := by decide +kernel
theorem dL_minuteOf_0 : decode cL_minuteOf 0 = .ok (.aload_n 2, 1) := by decide +kernel
theorem dL_minuteOf_1 : decode cL_minuteOf 1 = .ok (.iconst 0, 1) := by decide +kernel
theorem dL_minuteOf_2 : decode cL_minuteOf 2 = .ok (.aload_n 0, 1) := by decide +kernel
theorem dL_minuteOf_3 : decode cL_minuteOf 3 = .ok (.iload_n 1, 1) := by decide +kernel
theorem dL_minuteOf_4 : decode cL_minuteOf 4 = .ok (.invokevirtual 54, 3) := by decide +kernel
theorem dL_minuteOf_7 : decode cL_minuteOf 7 = .ok (.i2l, 1) := by decide +kernel
theorem dL_minuteOf_8 : decode cL_minuteOf 8 = .ok (.lastore, 1) := by decide +kernel
theorem dL_minuteOf_9 : decode cL_minuteOf 9 = .ok (.goto 6, 3) := by decide +kernel
theorem dL_minuteOf_12 : decode cL_minuteOf 12 = .ok (.astore_n 3, 1) := by decide +kernel
theorem dL_minuteOf_13 : decode cL_minuteOf 13 = .ok (.iconst 1, 1) := by decide +kernel
theorem dL_minuteOf_14 : decode cL_minuteOf 14 = .ok (.ireturn, 1) := by decide +kernel
theorem dL_minuteOf_15 : decode cL_minuteOf 15 = .ok (.iconst 0, 1) := by decide +kernel
theorem dL_minuteOf_16 : decode cL_minuteOf 16 = .ok (.ireturn, 1) := by decide +kernel
theorem dL_chosen_0 : decode cL_chosen 0 = .ok (.aload_n 2, 1) := by decide +kernel
theorem dL_chosen_1 : decode cL_chosen 1 = .ok (.iconst 0, 1) := by decide +kernel
theorem dL_chosen_2 : decode cL_chosen 2 = .ok (.aload_n 0, 1) := by decide +kernel
theorem dL_chosen_3 : decode cL_chosen 3 = .ok (.iload_n 1, 1) := by decide +kernel
theorem dL_chosen_4 : decode cL_chosen 4 = .ok (.invokevirtual 57, 3) := by decide +kernel
theorem dL_chosen_7 : decode cL_chosen 7 = .ok (.i2l, 1) := by decide +kernel
theorem dL_chosen_8 : decode cL_chosen 8 = .ok (.lastore, 1) := by decide +kernel
theorem dL_chosen_9 : decode cL_chosen 9 = .ok (.goto 6, 3) := by decide +kernel
theorem dL_chosen_12 : decode cL_chosen 12 = .ok (.astore_n 3, 1) := by decide +kernel
theorem dL_chosen_13 : decode cL_chosen 13 = .ok (.iconst 1, 1) := by decide +kernel
theorem dL_chosen_14 : decode cL_chosen 14 = .ok (.ireturn, 1) := by decide +kernel
theorem dL_chosen_15 : decode cL_chosen 15 = .ok (.iconst 0, 1) := by decide +kernel
theorem dL_chosen_16 : decode cL_chosen 16 = .ok (.ireturn, 1) := by decide +kernel
theorem dL_append_0 : decode cL_append 0 = .ok (.aload_n 2, 1) := by decide +kernel
theorem dL_append_1 : decode cL_append 1 = .ok (.iconst 0, 1) := by decide +kernel
theorem dL_append_2 : decode cL_append 2 = .ok (.aload_n 0, 1) := by decide +kernel
theorem dL_append_3 : decode cL_append 3 = .ok (.iload_n 1, 1) := by decide +kernel
theorem dL_append_4 : decode cL_append 4 = .ok (.invokevirtual 60, 3) := by decide +kernel
theorem dL_append_7 : decode cL_append 7 = .ok (.i2l, 1) := by decide +kernel
theorem dL_append_8 : decode cL_append 8 = .ok (.lastore, 1) := by decide +kernel
theorem dL_append_9 : decode cL_append 9 = .ok (.goto 9, 3) := by decide +kernel
theorem dL_append_12 : decode cL_append 12 = .ok (.astore_n 3, 1) := by decide +kernel
theorem dL_append_13 : decode cL_append 13 = .ok (.iconst 1, 1) := by decide +kernel
theorem dL_append_14 : decode cL_append 14 = .ok (.ireturn, 1) := by decide +kernel
theorem dL_append_15 : decode cL_append 15 = .ok (.astore_n 3, 1) := by decide +kernel
theorem dL_append_16 : decode cL_append 16 = .ok (.iconst 2, 1) := by decide +kernel
theorem dL_append_17 : decode cL_append 17 = .ok (.ireturn, 1) := by decide +kernel
theorem dL_append_18 : decode cL_append 18 = .ok (.iconst 0, 1) := by decide +kernel
theorem dL_append_19 : decode cL_append 19 = .ok (.ireturn, 1) := by decide +kernel
theorem dL_undo_0 : decode cL_undo 0 = .ok (.aload_n 1, 1) := by decide +kernel
theorem dL_undo_1 : decode cL_undo 1 = .ok (.iconst 0, 1) := by decide +kernel
theorem dL_undo_2 : decode cL_undo 2 = .ok (.aload_n 0, 1) := by decide +kernel
theorem dL_undo_3 : decode cL_undo 3 = .ok (.invokevirtual 63, 3) := by decide +kernel
theorem dL_undo_6 : decode cL_undo 6 = .ok (.i2l, 1) := by decide +kernel
theorem dL_undo_7 : decode cL_undo 7 = .ok (.lastore, 1) := by decide +kernel
theorem dL_undo_8 : decode cL_undo 8 = .ok (.goto 6, 3) := by decide +kernel
theorem dL_undo_11 : decode cL_undo 11 = .ok (.astore_n 2, 1) := by decide +kernel
theorem dL_undo_12 : decode cL_undo 12 = .ok (.iconst 1, 1) := by decide +kernel
theorem dL_undo_13 : decode cL_undo 13 = .ok (.ireturn, 1) := by decide +kernel
theorem dL_undo_14 : decode cL_undo 14 = .ok (.iconst 0, 1) := by decide +kernel
theorem dL_undo_15 : decode cL_undo 15 = .ok (.ireturn, 1) := by decide +kernel
theorem dL_law_0 : decode cL_law 0 = .ok (.new 8, 3) := by decide +kernel
theorem dL_law_3 : decode cL_law 3 = .ok (.dup, 1) := by decide +kernel
theorem dL_law_4 : decode cL_law 4 = .ok (.invokespecial 67, 3) := by decide +kernel
theorem dL_law_7 : decode cL_law 7 = .ok (.astore_n 1, 1) := by decide +kernel
theorem dL_law_8 : decode cL_law 8 = .ok (.new 68, 3) := by decide +kernel
theorem dL_law_11 : decode cL_law 11 = .ok (.dup, 1) := by decide +kernel
theorem dL_law_12 : decode cL_law 12 = .ok (.invokespecial 70, 3) := by decide +kernel
theorem dL_law_15 : decode cL_law 15 = .ok (.astore_n 2, 1) := by decide +kernel
theorem dL_law_16 : decode cL_law 16 = .ok (.iconst 1, 1) := by decide +kernel
theorem dL_law_17 : decode cL_law 17 = .ok (.newarray .long, 2) := by decide +kernel
theorem dL_law_19 : decode cL_law 19 = .ok (.astore_n 3, 1) := by decide +kernel
theorem dL_law_20 : decode cL_law 20 = .ok (.iconst 0, 1) := by decide +kernel
theorem dL_law_21 : decode cL_law 21 = .ok (.istore 4, 2) := by decide +kernel
theorem dL_law_23 : decode cL_law 23 = .ok (.iload 4, 2) := by decide +kernel
theorem dL_law_25 : decode cL_law 25 = .ok (.aload_n 0, 1) := by decide +kernel
theorem dL_law_26 : decode cL_law 26 = .ok (.arraylength, 1) := by decide +kernel
theorem dL_law_27 : decode cL_law 27 = .ok (.iconst 5, 1) := by decide +kernel
theorem dL_law_28 : decode cL_law 28 = .ok (.isub, 1) := by decide +kernel
theorem dL_law_29 : decode cL_law 29 = .ok (.if_icmp .gt 1261, 3) := by decide +kernel
theorem dL_law_32 : decode cL_law 32 = .ok (.aload_n 0, 1) := by decide +kernel
theorem dL_law_33 : decode cL_law 33 = .ok (.iload 4, 2) := by decide +kernel
theorem dL_law_35 : decode cL_law 35 = .ok (.iaload, 1) := by decide +kernel
theorem dL_law_36 : decode cL_law 36 = .ok (.bipush 31, 2) := by decide +kernel
theorem dL_law_38 : decode cL_law 38 = .ok (.iand, 1) := by decide +kernel
theorem dL_law_39 : decode cL_law 39 = .ok (.tableswitch 1245 0 22 #[105, 213, 281, 349, 417, 473, 529, 542, 610, 678, 734, 802, 870, 926, 982, 995, 1008, 1064, 1105, 1161, 1174, 1187, 1231], 105) := by decide +kernel
theorem dL_law_144 : decode cL_law 144 = .ok (.aload_n 1, 1) := by decide +kernel
theorem dL_law_145 : decode cL_law 145 = .ok (.aload_n 0, 1) := by decide +kernel
theorem dL_law_146 : decode cL_law 146 = .ok (.iload 4, 2) := by decide +kernel
theorem dL_law_148 : decode cL_law 148 = .ok (.iconst 1, 1) := by decide +kernel
theorem dL_law_149 : decode cL_law 149 = .ok (.iadd, 1) := by decide +kernel
theorem dL_law_150 : decode cL_law 150 = .ok (.iaload, 1) := by decide +kernel
theorem dL_law_151 : decode cL_law 151 = .ok (.aload_n 0, 1) := by decide +kernel
theorem dL_law_152 : decode cL_law 152 = .ok (.iload 4, 2) := by decide +kernel
theorem dL_law_154 : decode cL_law 154 = .ok (.iconst 2, 1) := by decide +kernel
theorem dL_law_155 : decode cL_law 155 = .ok (.iadd, 1) := by decide +kernel
theorem dL_law_156 : decode cL_law 156 = .ok (.iaload, 1) := by decide +kernel
theorem dL_law_157 : decode cL_law 157 = .ok (.aload_n 0, 1) := by decide +kernel
theorem dL_law_158 : decode cL_law 158 = .ok (.iload 4, 2) := by decide +kernel
theorem dL_law_160 : decode cL_law 160 = .ok (.iconst 3, 1) := by decide +kernel
theorem dL_law_161 : decode cL_law 161 = .ok (.iadd, 1) := by decide +kernel
theorem dL_law_162 : decode cL_law 162 = .ok (.iaload, 1) := by decide +kernel
theorem dL_law_163 : decode cL_law 163 = .ok (.aload_n 0, 1) := by decide +kernel
theorem dL_law_164 : decode cL_law 164 = .ok (.iload 4, 2) := by decide +kernel
theorem dL_law_166 : decode cL_law 166 = .ok (.iconst 4, 1) := by decide +kernel
theorem dL_law_167 : decode cL_law 167 = .ok (.iadd, 1) := by decide +kernel
theorem dL_law_168 : decode cL_law 168 = .ok (.iaload, 1) := by decide +kernel
theorem dL_law_169 : decode cL_law 169 = .ok (.ifCond .eq 7, 3) := by decide +kernel
theorem dL_law_172 : decode cL_law 172 = .ok (.iconst 1, 1) := by decide +kernel
theorem dL_law_173 : decode cL_law 173 = .ok (.goto 4, 3) := by decide +kernel
theorem dL_law_176 : decode cL_law 176 = .ok (.iconst 0, 1) := by decide +kernel
theorem dL_law_177 : decode cL_law 177 = .ok (.aload_n 3, 1) := by decide +kernel
theorem dL_law_178 : decode cL_law 178 = .ok (.invokestatic 71, 3) := by decide +kernel
theorem dL_law_181 : decode cL_law 181 = .ok (.istore 5, 2) := by decide +kernel
theorem dL_law_183 : decode cL_law 183 = .ok (.aload_n 2, 1) := by decide +kernel
theorem dL_law_184 : decode cL_law 184 = .ok (.aload_n 0, 1) := by decide +kernel
theorem dL_law_185 : decode cL_law 185 = .ok (.iload 4, 2) := by decide +kernel
theorem dL_law_187 : decode cL_law 187 = .ok (.iconst 1, 1) := by decide +kernel
theorem dL_law_188 : decode cL_law 188 = .ok (.iadd, 1) := by decide +kernel
theorem dL_law_189 : decode cL_law 189 = .ok (.iaload, 1) := by decide +kernel
theorem dL_law_190 : decode cL_law 190 = .ok (.aload_n 0, 1) := by decide +kernel
theorem dL_law_191 : decode cL_law 191 = .ok (.iload 4, 2) := by decide +kernel
theorem dL_law_193 : decode cL_law 193 = .ok (.iconst 2, 1) := by decide +kernel
theorem dL_law_194 : decode cL_law 194 = .ok (.iadd, 1) := by decide +kernel
theorem dL_law_195 : decode cL_law 195 = .ok (.iaload, 1) := by decide +kernel
theorem dL_law_196 : decode cL_law 196 = .ok (.aload_n 0, 1) := by decide +kernel
theorem dL_law_197 : decode cL_law 197 = .ok (.iload 4, 2) := by decide +kernel
theorem dL_law_199 : decode cL_law 199 = .ok (.iconst 3, 1) := by decide +kernel
theorem dL_law_200 : decode cL_law 200 = .ok (.iadd, 1) := by decide +kernel
theorem dL_law_201 : decode cL_law 201 = .ok (.iaload, 1) := by decide +kernel
theorem dL_law_202 : decode cL_law 202 = .ok (.aload_n 0, 1) := by decide +kernel
theorem dL_law_203 : decode cL_law 203 = .ok (.iload 4, 2) := by decide +kernel
theorem dL_law_205 : decode cL_law 205 = .ok (.iconst 4, 1) := by decide +kernel
theorem dL_law_206 : decode cL_law 206 = .ok (.iadd, 1) := by decide +kernel
theorem dL_law_207 : decode cL_law 207 = .ok (.iaload, 1) := by decide +kernel
theorem dL_law_208 : decode cL_law 208 = .ok (.ifCond .eq 7, 3) := by decide +kernel
theorem dL_law_211 : decode cL_law 211 = .ok (.iconst 1, 1) := by decide +kernel
theorem dL_law_212 : decode cL_law 212 = .ok (.goto 4, 3) := by decide +kernel
theorem dL_law_215 : decode cL_law 215 = .ok (.iconst 0, 1) := by decide +kernel
theorem dL_law_216 : decode cL_law 216 = .ok (.invokevirtual 76, 3) := by decide +kernel
theorem dL_law_219 : decode cL_law 219 = .ok (.istore 6, 2) := by decide +kernel
theorem dL_law_221 : decode cL_law 221 = .ok (.aload_n 2, 1) := by decide +kernel
theorem dL_law_222 : decode cL_law 222 = .ok (.invokevirtual 77, 3) := by decide +kernel
theorem dL_law_225 : decode cL_law 225 = .ok (.iload 5, 2) := by decide +kernel
theorem dL_law_227 : decode cL_law 227 = .ok (.if_icmp .eq 5, 3) := by decide +kernel
theorem dL_law_230 : decode cL_law 230 = .ok (.iconst 0, 1) := by decide +kernel
theorem dL_law_231 : decode cL_law 231 = .ok (.ireturn, 1) := by decide +kernel
theorem dL_law_232 : decode cL_law 232 = .ok (.iload 5, 2) := by decide +kernel
theorem dL_law_234 : decode cL_law 234 = .ok (.ifCond .ne 15, 3) := by decide +kernel
theorem dL_law_237 : decode cL_law 237 = .ok (.aload_n 3, 1) := by decide +kernel
theorem dL_law_238 : decode cL_law 238 = .ok (.iconst 0, 1) := by decide +kernel
theorem dL_law_239 : decode cL_law 239 = .ok (.laload, 1) := by decide +kernel
theorem dL_law_240 : decode cL_law 240 = .ok (.iload 6, 2) := by decide +kernel
theorem dL_law_242 : decode cL_law 242 = .ok (.i2l, 1) := by decide +kernel
theorem dL_law_243 : decode cL_law 243 = .ok (.lcmp, 1) := by decide +kernel
theorem dL_law_244 : decode cL_law 244 = .ok (.ifCond .eq 5, 3) := by decide +kernel
theorem dL_law_247 : decode cL_law 247 = .ok (.iconst 0, 1) := by decide +kernel
theorem dL_law_248 : decode cL_law 248 = .ok (.ireturn, 1) := by decide +kernel
theorem dL_law_249 : decode cL_law 249 = .ok (.goto 1035, 3) := by decide +kernel
theorem dL_law_252 : decode cL_law 252 = .ok (.aload_n 1, 1) := by decide +kernel
theorem dL_law_253 : decode cL_law 253 = .ok (.aload_n 0, 1) := by decide +kernel
theorem dL_law_254 : decode cL_law 254 = .ok (.iload 4, 2) := by decide +kernel
theorem dL_law_256 : decode cL_law 256 = .ok (.iconst 1, 1) := by decide +kernel
theorem dL_law_257 : decode cL_law 257 = .ok (.iadd, 1) := by decide +kernel
theorem dL_law_258 : decode cL_law 258 = .ok (.iaload, 1) := by decide +kernel
theorem dL_law_259 : decode cL_law 259 = .ok (.aload_n 0, 1) := by decide +kernel
theorem dL_law_260 : decode cL_law 260 = .ok (.iload 4, 2) := by decide +kernel
theorem dL_law_262 : decode cL_law 262 = .ok (.iconst 2, 1) := by decide +kernel
theorem dL_law_263 : decode cL_law 263 = .ok (.iadd, 1) := by decide +kernel
theorem dL_law_264 : decode cL_law 264 = .ok (.iaload, 1) := by decide +kernel
theorem dL_law_265 : decode cL_law 265 = .ok (.aload_n 3, 1) := by decide +kernel
theorem dL_law_266 : decode cL_law 266 = .ok (.invokestatic 80, 3) := by decide +kernel
theorem dL_law_269 : decode cL_law 269 = .ok (.istore 5, 2) := by decide +kernel
theorem dL_law_271 : decode cL_law 271 = .ok (.aload_n 2, 1) := by decide +kernel
theorem dL_law_272 : decode cL_law 272 = .ok (.aload_n 0, 1) := by decide +kernel
theorem dL_law_273 : decode cL_law 273 = .ok (.iload 4, 2) := by decide +kernel
theorem dL_law_275 : decode cL_law 275 = .ok (.iconst 1, 1) := by decide +kernel
theorem dL_law_276 : decode cL_law 276 = .ok (.iadd, 1) := by decide +kernel
theorem dL_law_277 : decode cL_law 277 = .ok (.iaload, 1) := by decide +kernel
theorem dL_law_278 : decode cL_law 278 = .ok (.aload_n 0, 1) := by decide +kernel
theorem dL_law_279 : decode cL_law 279 = .ok (.iload 4, 2) := by decide +kernel
theorem dL_law_281 : decode cL_law 281 = .ok (.iconst 2, 1) := by decide +kernel
theorem dL_law_282 : decode cL_law 282 = .ok (.iadd, 1) := by decide +kernel
theorem dL_law_283 : decode cL_law 283 = .ok (.iaload, 1) := by decide +kernel
theorem dL_law_284 : decode cL_law 284 = .ok (.invokevirtual 83, 3) := by decide +kernel
theorem dL_law_287 : decode cL_law 287 = .ok (.istore 6, 2) := by decide +kernel
theorem dL_law_289 : decode cL_law 289 = .ok (.aload_n 2, 1) := by decide +kernel
theorem dL_law_290 : decode cL_law 290 = .ok (.invokevirtual 77, 3) := by decide +kernel
theorem dL_law_293 : decode cL_law 293 = .ok (.iload 5, 2) := by decide +kernel
theorem dL_law_295 : decode cL_law 295 = .ok (.if_icmp .eq 5, 3) := by decide +kernel
theorem dL_law_298 : decode cL_law 298 = .ok (.iconst 0, 1) := by decide +kernel
theorem dL_law_299 : decode cL_law 299 = .ok (.ireturn, 1) := by decide +kernel
theorem dL_law_300 : decode cL_law 300 = .ok (.iload 5, 2) := by decide +kernel
theorem dL_law_302 : decode cL_law 302 = .ok (.ifCond .ne 15, 3) := by decide +kernel
theorem dL_law_305 : decode cL_law 305 = .ok (.aload_n 3, 1) := by decide +kernel
theorem dL_law_306 : decode cL_law 306 = .ok (.iconst 0, 1) := by decide +kernel
theorem dL_law_307 : decode cL_law 307 = .ok (.laload, 1) := by decide +kernel
theorem dL_law_308 : decode cL_law 308 = .ok (.iload 6, 2) := by decide +kernel
theorem dL_law_310 : decode cL_law 310 = .ok (.i2l, 1) := by decide +kernel
theorem dL_law_311 : decode cL_law 311 = .ok (.lcmp, 1) := by decide +kernel
theorem dL_law_312 : decode cL_law 312 = .ok (.ifCond .eq 5, 3) := by decide +kernel
theorem dL_law_315 : decode cL_law 315 = .ok (.iconst 0, 1) := by decide +kernel
theorem dL_law_316 : decode cL_law 316 = .ok (.ireturn, 1) := by decide +kernel
theorem dL_law_317 : decode cL_law 317 = .ok (.goto 967, 3) := by decide +kernel
theorem dL_law_320 : decode cL_law 320 = .ok (.aload_n 1, 1) := by decide +kernel
theorem dL_law_321 : decode cL_law 321 = .ok (.aload_n 0, 1) := by decide +kernel
theorem dL_law_322 : decode cL_law 322 = .ok (.iload 4, 2) := by decide +kernel
theorem dL_law_324 : decode cL_law 324 = .ok (.iconst 1, 1) := by decide +kernel
theorem dL_law_325 : decode cL_law 325 = .ok (.iadd, 1) := by decide +kernel
theorem dL_law_326 : decode cL_law 326 = .ok (.iaload, 1) := by decide +kernel
theorem dL_law_327 : decode cL_law 327 = .ok (.aload_n 0, 1) := by decide +kernel
theorem dL_law_328 : decode cL_law 328 = .ok (.iload 4, 2) := by decide +kernel
theorem dL_law_330 : decode cL_law 330 = .ok (.iconst 2, 1) := by decide +kernel
theorem dL_law_331 : decode cL_law 331 = .ok (.iadd, 1) := by decide +kernel
theorem dL_law_332 : decode cL_law 332 = .ok (.iaload, 1) := by decide +kernel
theorem dL_law_333 : decode cL_law 333 = .ok (.aload_n 3, 1) := by decide +kernel
theorem dL_law_334 : decode cL_law 334 = .ok (.invokestatic 84, 3) := by decide +kernel
theorem dL_law_337 : decode cL_law 337 = .ok (.istore 5, 2) := by decide +kernel
theorem dL_law_339 : decode cL_law 339 = .ok (.aload_n 2, 1) := by decide +kernel
theorem dL_law_340 : decode cL_law 340 = .ok (.aload_n 0, 1) := by decide +kernel
theorem dL_law_341 : decode cL_law 341 = .ok (.iload 4, 2) := by decide +kernel
theorem dL_law_343 : decode cL_law 343 = .ok (.iconst 1, 1) := by decide +kernel
theorem dL_law_344 : decode cL_law 344 = .ok (.iadd, 1) := by decide +kernel
theorem dL_law_345 : decode cL_law 345 = .ok (.iaload, 1) := by decide +kernel
theorem dL_law_346 : decode cL_law 346 = .ok (.aload_n 0, 1) := by decide +kernel
theorem dL_law_347 : decode cL_law 347 = .ok (.iload 4, 2) := by decide +kernel
theorem dL_law_349 : decode cL_law 349 = .ok (.iconst 2, 1) := by decide +kernel
theorem dL_law_350 : decode cL_law 350 = .ok (.iadd, 1) := by decide +kernel
theorem dL_law_351 : decode cL_law 351 = .ok (.iaload, 1) := by decide +kernel
theorem dL_law_352 : decode cL_law 352 = .ok (.invokevirtual 86, 3) := by decide +kernel
theorem dL_law_355 : decode cL_law 355 = .ok (.istore 6, 2) := by decide +kernel
theorem dL_law_357 : decode cL_law 357 = .ok (.aload_n 2, 1) := by decide +kernel
theorem dL_law_358 : decode cL_law 358 = .ok (.invokevirtual 77, 3) := by decide +kernel
theorem dL_law_361 : decode cL_law 361 = .ok (.iload 5, 2) := by decide +kernel
theorem dL_law_363 : decode cL_law 363 = .ok (.if_icmp .eq 5, 3) := by decide +kernel
theorem dL_law_366 : decode cL_law 366 = .ok (.iconst 0, 1) := by decide +kernel
theorem dL_law_367 : decode cL_law 367 = .ok (.ireturn, 1) := by decide +kernel
theorem dL_law_368 : decode cL_law 368 = .ok (.iload 5, 2) := by decide +kernel
theorem dL_law_370 : decode cL_law 370 = .ok (.ifCond .ne 15, 3) := by decide +kernel
theorem dL_law_373 : decode cL_law 373 = .ok (.aload_n 3, 1) := by decide +kernel
theorem dL_law_374 : decode cL_law 374 = .ok (.iconst 0, 1) := by decide +kernel
theorem dL_law_375 : decode cL_law 375 = .ok (.laload, 1) := by decide +kernel
theorem dL_law_376 : decode cL_law 376 = .ok (.iload 6, 2) := by decide +kernel
theorem dL_law_378 : decode cL_law 378 = .ok (.i2l, 1) := by decide +kernel
theorem dL_law_379 : decode cL_law 379 = .ok (.lcmp, 1) := by decide +kernel
theorem dL_law_380 : decode cL_law 380 = .ok (.ifCond .eq 5, 3) := by decide +kernel
theorem dL_law_383 : decode cL_law 383 = .ok (.iconst 0, 1) := by decide +kernel
theorem dL_law_384 : decode cL_law 384 = .ok (.ireturn, 1) := by decide +kernel
theorem dL_law_385 : decode cL_law 385 = .ok (.goto 899, 3) := by decide +kernel
theorem dL_law_388 : decode cL_law 388 = .ok (.aload_n 1, 1) := by decide +kernel
theorem dL_law_389 : decode cL_law 389 = .ok (.aload_n 0, 1) := by decide +kernel
theorem dL_law_390 : decode cL_law 390 = .ok (.iload 4, 2) := by decide +kernel
theorem dL_law_392 : decode cL_law 392 = .ok (.iconst 1, 1) := by decide +kernel
theorem dL_law_393 : decode cL_law 393 = .ok (.iadd, 1) := by decide +kernel
theorem dL_law_394 : decode cL_law 394 = .ok (.iaload, 1) := by decide +kernel
theorem dL_law_395 : decode cL_law 395 = .ok (.aload_n 0, 1) := by decide +kernel
theorem dL_law_396 : decode cL_law 396 = .ok (.iload 4, 2) := by decide +kernel
theorem dL_law_398 : decode cL_law 398 = .ok (.iconst 2, 1) := by decide +kernel
theorem dL_law_399 : decode cL_law 399 = .ok (.iadd, 1) := by decide +kernel
theorem dL_law_400 : decode cL_law 400 = .ok (.iaload, 1) := by decide +kernel
theorem dL_law_401 : decode cL_law 401 = .ok (.aload_n 3, 1) := by decide +kernel
theorem dL_law_402 : decode cL_law 402 = .ok (.invokestatic 87, 3) := by decide +kernel
theorem dL_law_405 : decode cL_law 405 = .ok (.istore 5, 2) := by decide +kernel
theorem dL_law_407 : decode cL_law 407 = .ok (.aload_n 2, 1) := by decide +kernel
theorem dL_law_408 : decode cL_law 408 = .ok (.aload_n 0, 1) := by decide +kernel
theorem dL_law_409 : decode cL_law 409 = .ok (.iload 4, 2) := by decide +kernel
theorem dL_law_411 : decode cL_law 411 = .ok (.iconst 1, 1) := by decide +kernel
theorem dL_law_412 : decode cL_law 412 = .ok (.iadd, 1) := by decide +kernel
theorem dL_law_413 : decode cL_law 413 = .ok (.iaload, 1) := by decide +kernel
theorem dL_law_414 : decode cL_law 414 = .ok (.aload_n 0, 1) := by decide +kernel
theorem dL_law_415 : decode cL_law 415 = .ok (.iload 4, 2) := by decide +kernel
theorem dL_law_417 : decode cL_law 417 = .ok (.iconst 2, 1) := by decide +kernel
theorem dL_law_418 : decode cL_law 418 = .ok (.iadd, 1) := by decide +kernel
theorem dL_law_419 : decode cL_law 419 = .ok (.iaload, 1) := by decide +kernel
theorem dL_law_420 : decode cL_law 420 = .ok (.invokevirtual 89, 3) := by decide +kernel
theorem dL_law_423 : decode cL_law 423 = .ok (.istore 6, 2) := by decide +kernel
theorem dL_law_425 : decode cL_law 425 = .ok (.aload_n 2, 1) := by decide +kernel
theorem dL_law_426 : decode cL_law 426 = .ok (.invokevirtual 77, 3) := by decide +kernel
theorem dL_law_429 : decode cL_law 429 = .ok (.iload 5, 2) := by decide +kernel
theorem dL_law_431 : decode cL_law 431 = .ok (.if_icmp .eq 5, 3) := by decide +kernel
theorem dL_law_434 : decode cL_law 434 = .ok (.iconst 0, 1) := by decide +kernel
theorem dL_law_435 : decode cL_law 435 = .ok (.ireturn, 1) := by decide +kernel
theorem dL_law_436 : decode cL_law 436 = .ok (.iload 5, 2) := by decide +kernel
theorem dL_law_438 : decode cL_law 438 = .ok (.ifCond .ne 15, 3) := by decide +kernel
theorem dL_law_441 : decode cL_law 441 = .ok (.aload_n 3, 1) := by decide +kernel
theorem dL_law_442 : decode cL_law 442 = .ok (.iconst 0, 1) := by decide +kernel
theorem dL_law_443 : decode cL_law 443 = .ok (.laload, 1) := by decide +kernel
theorem dL_law_444 : decode cL_law 444 = .ok (.iload 6, 2) := by decide +kernel
theorem dL_law_446 : decode cL_law 446 = .ok (.i2l, 1) := by decide +kernel
theorem dL_law_447 : decode cL_law 447 = .ok (.lcmp, 1) := by decide +kernel
theorem dL_law_448 : decode cL_law 448 = .ok (.ifCond .eq 5, 3) := by decide +kernel
theorem dL_law_451 : decode cL_law 451 = .ok (.iconst 0, 1) := by decide +kernel
theorem dL_law_452 : decode cL_law 452 = .ok (.ireturn, 1) := by decide +kernel
theorem dL_law_453 : decode cL_law 453 = .ok (.goto 831, 3) := by decide +kernel
theorem dL_law_456 : decode cL_law 456 = .ok (.aload_n 1, 1) := by decide +kernel
theorem dL_law_457 : decode cL_law 457 = .ok (.aload_n 0, 1) := by decide +kernel
theorem dL_law_458 : decode cL_law 458 = .ok (.iload 4, 2) := by decide +kernel
theorem dL_law_460 : decode cL_law 460 = .ok (.iconst 1, 1) := by decide +kernel
theorem dL_law_461 : decode cL_law 461 = .ok (.iadd, 1) := by decide +kernel
theorem dL_law_462 : decode cL_law 462 = .ok (.iaload, 1) := by decide +kernel
theorem dL_law_463 : decode cL_law 463 = .ok (.aload_n 3, 1) := by decide +kernel
theorem dL_law_464 : decode cL_law 464 = .ok (.invokestatic 90, 3) := by decide +kernel
theorem dL_law_467 : decode cL_law 467 = .ok (.istore 5, 2) := by decide +kernel
theorem dL_law_469 : decode cL_law 469 = .ok (.aload_n 2, 1) := by decide +kernel
theorem dL_law_470 : decode cL_law 470 = .ok (.aload_n 0, 1) := by decide +kernel
theorem dL_law_471 : decode cL_law 471 = .ok (.iload 4, 2) := by decide +kernel
theorem dL_law_473 : decode cL_law 473 = .ok (.iconst 1, 1) := by decide +kernel
theorem dL_law_474 : decode cL_law 474 = .ok (.iadd, 1) := by decide +kernel
theorem dL_law_475 : decode cL_law 475 = .ok (.iaload, 1) := by decide +kernel
theorem dL_law_476 : decode cL_law 476 = .ok (.invokevirtual 93, 3) := by decide +kernel
theorem dL_law_479 : decode cL_law 479 = .ok (.istore 6, 2) := by decide +kernel
theorem dL_law_481 : decode cL_law 481 = .ok (.aload_n 2, 1) := by decide +kernel
theorem dL_law_482 : decode cL_law 482 = .ok (.invokevirtual 77, 3) := by decide +kernel
theorem dL_law_485 : decode cL_law 485 = .ok (.iload 5, 2) := by decide +kernel
theorem dL_law_487 : decode cL_law 487 = .ok (.if_icmp .eq 5, 3) := by decide +kernel
theorem dL_law_490 : decode cL_law 490 = .ok (.iconst 0, 1) := by decide +kernel
theorem dL_law_491 : decode cL_law 491 = .ok (.ireturn, 1) := by decide +kernel
theorem dL_law_492 : decode cL_law 492 = .ok (.iload 5, 2) := by decide +kernel
theorem dL_law_494 : decode cL_law 494 = .ok (.ifCond .ne 15, 3) := by decide +kernel
theorem dL_law_497 : decode cL_law 497 = .ok (.aload_n 3, 1) := by decide +kernel
theorem dL_law_498 : decode cL_law 498 = .ok (.iconst 0, 1) := by decide +kernel
theorem dL_law_499 : decode cL_law 499 = .ok (.laload, 1) := by decide +kernel
theorem dL_law_500 : decode cL_law 500 = .ok (.iload 6, 2) := by decide +kernel
theorem dL_law_502 : decode cL_law 502 = .ok (.i2l, 1) := by decide +kernel
theorem dL_law_503 : decode cL_law 503 = .ok (.lcmp, 1) := by decide +kernel
theorem dL_law_504 : decode cL_law 504 = .ok (.ifCond .eq 5, 3) := by decide +kernel
theorem dL_law_507 : decode cL_law 507 = .ok (.iconst 0, 1) := by decide +kernel
theorem dL_law_508 : decode cL_law 508 = .ok (.ireturn, 1) := by decide +kernel
theorem dL_law_509 : decode cL_law 509 = .ok (.goto 775, 3) := by decide +kernel
theorem dL_law_512 : decode cL_law 512 = .ok (.aload_n 1, 1) := by decide +kernel
theorem dL_law_513 : decode cL_law 513 = .ok (.aload_n 0, 1) := by decide +kernel
theorem dL_law_514 : decode cL_law 514 = .ok (.iload 4, 2) := by decide +kernel
theorem dL_law_516 : decode cL_law 516 = .ok (.iconst 1, 1) := by decide +kernel
theorem dL_law_517 : decode cL_law 517 = .ok (.iadd, 1) := by decide +kernel
theorem dL_law_518 : decode cL_law 518 = .ok (.iaload, 1) := by decide +kernel
theorem dL_law_519 : decode cL_law 519 = .ok (.aload_n 3, 1) := by decide +kernel
theorem dL_law_520 : decode cL_law 520 = .ok (.invokestatic 94, 3) := by decide +kernel
theorem dL_law_523 : decode cL_law 523 = .ok (.istore 5, 2) := by decide +kernel
theorem dL_law_525 : decode cL_law 525 = .ok (.aload_n 2, 1) := by decide +kernel
theorem dL_law_526 : decode cL_law 526 = .ok (.aload_n 0, 1) := by decide +kernel
theorem dL_law_527 : decode cL_law 527 = .ok (.iload 4, 2) := by decide +kernel
theorem dL_law_529 : decode cL_law 529 = .ok (.iconst 1, 1) := by decide +kernel
theorem dL_law_530 : decode cL_law 530 = .ok (.iadd, 1) := by decide +kernel
theorem dL_law_531 : decode cL_law 531 = .ok (.iaload, 1) := by decide +kernel
theorem dL_law_532 : decode cL_law 532 = .ok (.invokevirtual 96, 3) := by decide +kernel
theorem dL_law_535 : decode cL_law 535 = .ok (.istore 6, 2) := by decide +kernel
theorem dL_law_537 : decode cL_law 537 = .ok (.aload_n 2, 1) := by decide +kernel
theorem dL_law_538 : decode cL_law 538 = .ok (.invokevirtual 77, 3) := by decide +kernel
theorem dL_law_541 : decode cL_law 541 = .ok (.iload 5, 2) := by decide +kernel
theorem dL_law_543 : decode cL_law 543 = .ok (.if_icmp .eq 5, 3) := by decide +kernel
theorem dL_law_546 : decode cL_law 546 = .ok (.iconst 0, 1) := by decide +kernel
theorem dL_law_547 : decode cL_law 547 = .ok (.ireturn, 1) := by decide +kernel
theorem dL_law_548 : decode cL_law 548 = .ok (.iload 5, 2) := by decide +kernel
theorem dL_law_550 : decode cL_law 550 = .ok (.ifCond .ne 15, 3) := by decide +kernel
theorem dL_law_553 : decode cL_law 553 = .ok (.aload_n 3, 1) := by decide +kernel
theorem dL_law_554 : decode cL_law 554 = .ok (.iconst 0, 1) := by decide +kernel
theorem dL_law_555 : decode cL_law 555 = .ok (.laload, 1) := by decide +kernel
theorem dL_law_556 : decode cL_law 556 = .ok (.iload 6, 2) := by decide +kernel
theorem dL_law_558 : decode cL_law 558 = .ok (.i2l, 1) := by decide +kernel
theorem dL_law_559 : decode cL_law 559 = .ok (.lcmp, 1) := by decide +kernel
theorem dL_law_560 : decode cL_law 560 = .ok (.ifCond .eq 5, 3) := by decide +kernel
theorem dL_law_563 : decode cL_law 563 = .ok (.iconst 0, 1) := by decide +kernel
theorem dL_law_564 : decode cL_law 564 = .ok (.ireturn, 1) := by decide +kernel
theorem dL_law_565 : decode cL_law 565 = .ok (.goto 719, 3) := by decide +kernel
theorem dL_law_568 : decode cL_law 568 = .ok (.aload_n 1, 1) := by decide +kernel
theorem dL_law_569 : decode cL_law 569 = .ok (.invokevirtual 97, 3) := by decide +kernel
theorem dL_law_572 : decode cL_law 572 = .ok (.aload_n 2, 1) := by decide +kernel
theorem dL_law_573 : decode cL_law 573 = .ok (.invokevirtual 100, 3) := by decide +kernel
theorem dL_law_576 : decode cL_law 576 = .ok (.if_icmp .eq 708, 3) := by decide +kernel
theorem dL_law_579 : decode cL_law 579 = .ok (.iconst 0, 1) := by decide +kernel
theorem dL_law_580 : decode cL_law 580 = .ok (.ireturn, 1) := by decide +kernel
theorem dL_law_581 : decode cL_law 581 = .ok (.aload_n 1, 1) := by decide +kernel
theorem dL_law_582 : decode cL_law 582 = .ok (.aload_n 0, 1) := by decide +kernel
theorem dL_law_583 : decode cL_law 583 = .ok (.iload 4, 2) := by decide +kernel
theorem dL_law_585 : decode cL_law 585 = .ok (.iconst 1, 1) := by decide +kernel
theorem dL_law_586 : decode cL_law 586 = .ok (.iadd, 1) := by decide +kernel
theorem dL_law_587 : decode cL_law 587 = .ok (.iaload, 1) := by decide +kernel
theorem dL_law_588 : decode cL_law 588 = .ok (.aload_n 0, 1) := by decide +kernel
theorem dL_law_589 : decode cL_law 589 = .ok (.iload 4, 2) := by decide +kernel
theorem dL_law_591 : decode cL_law 591 = .ok (.iconst 2, 1) := by decide +kernel
theorem dL_law_592 : decode cL_law 592 = .ok (.iadd, 1) := by decide +kernel
theorem dL_law_593 : decode cL_law 593 = .ok (.iaload, 1) := by decide +kernel
theorem dL_law_594 : decode cL_law 594 = .ok (.aload_n 3, 1) := by decide +kernel
theorem dL_law_595 : decode cL_law 595 = .ok (.invokestatic 101, 3) := by decide +kernel
theorem dL_law_598 : decode cL_law 598 = .ok (.istore 5, 2) := by decide +kernel
theorem dL_law_600 : decode cL_law 600 = .ok (.aload_n 2, 1) := by decide +kernel
theorem dL_law_601 : decode cL_law 601 = .ok (.aload_n 0, 1) := by decide +kernel
theorem dL_law_602 : decode cL_law 602 = .ok (.iload 4, 2) := by decide +kernel
theorem dL_law_604 : decode cL_law 604 = .ok (.iconst 1, 1) := by decide +kernel
theorem dL_law_605 : decode cL_law 605 = .ok (.iadd, 1) := by decide +kernel
theorem dL_law_606 : decode cL_law 606 = .ok (.iaload, 1) := by decide +kernel
theorem dL_law_607 : decode cL_law 607 = .ok (.aload_n 0, 1) := by decide +kernel
theorem dL_law_608 : decode cL_law 608 = .ok (.iload 4, 2) := by decide +kernel
theorem dL_law_610 : decode cL_law 610 = .ok (.iconst 2, 1) := by decide +kernel
theorem dL_law_611 : decode cL_law 611 = .ok (.iadd, 1) := by decide +kernel
theorem dL_law_612 : decode cL_law 612 = .ok (.iaload, 1) := by decide +kernel
theorem dL_law_613 : decode cL_law 613 = .ok (.invokevirtual 103, 3) := by decide +kernel
theorem dL_law_616 : decode cL_law 616 = .ok (.istore 6, 2) := by decide +kernel
theorem dL_law_618 : decode cL_law 618 = .ok (.aload_n 2, 1) := by decide +kernel
theorem dL_law_619 : decode cL_law 619 = .ok (.invokevirtual 77, 3) := by decide +kernel
theorem dL_law_622 : decode cL_law 622 = .ok (.iload 5, 2) := by decide +kernel
theorem dL_law_624 : decode cL_law 624 = .ok (.if_icmp .eq 5, 3) := by decide +kernel
theorem dL_law_627 : decode cL_law 627 = .ok (.iconst 0, 1) := by decide +kernel
theorem dL_law_628 : decode cL_law 628 = .ok (.ireturn, 1) := by decide +kernel
theorem dL_law_629 : decode cL_law 629 = .ok (.iload 5, 2) := by decide +kernel
theorem dL_law_631 : decode cL_law 631 = .ok (.ifCond .ne 15, 3) := by decide +kernel
theorem dL_law_634 : decode cL_law 634 = .ok (.aload_n 3, 1) := by decide +kernel
theorem dL_law_635 : decode cL_law 635 = .ok (.iconst 0, 1) := by decide +kernel
theorem dL_law_636 : decode cL_law 636 = .ok (.laload, 1) := by decide +kernel
theorem dL_law_637 : decode cL_law 637 = .ok (.iload 6, 2) := by decide +kernel
theorem dL_law_639 : decode cL_law 639 = .ok (.i2l, 1) := by decide +kernel
theorem dL_law_640 : decode cL_law 640 = .ok (.lcmp, 1) := by decide +kernel
theorem dL_law_641 : decode cL_law 641 = .ok (.ifCond .eq 5, 3) := by decide +kernel
theorem dL_law_644 : decode cL_law 644 = .ok (.iconst 0, 1) := by decide +kernel
theorem dL_law_645 : decode cL_law 645 = .ok (.ireturn, 1) := by decide +kernel
theorem dL_law_646 : decode cL_law 646 = .ok (.goto 638, 3) := by decide +kernel
theorem dL_law_649 : decode cL_law 649 = .ok (.aload_n 1, 1) := by decide +kernel
theorem dL_law_650 : decode cL_law 650 = .ok (.aload_n 0, 1) := by decide +kernel
theorem dL_law_651 : decode cL_law 651 = .ok (.iload 4, 2) := by decide +kernel
theorem dL_law_653 : decode cL_law 653 = .ok (.iconst 1, 1) := by decide +kernel
theorem dL_law_654 : decode cL_law 654 = .ok (.iadd, 1) := by decide +kernel
theorem dL_law_655 : decode cL_law 655 = .ok (.iaload, 1) := by decide +kernel
theorem dL_law_656 : decode cL_law 656 = .ok (.aload_n 0, 1) := by decide +kernel
theorem dL_law_657 : decode cL_law 657 = .ok (.iload 4, 2) := by decide +kernel
theorem dL_law_659 : decode cL_law 659 = .ok (.iconst 2, 1) := by decide +kernel
theorem dL_law_660 : decode cL_law 660 = .ok (.iadd, 1) := by decide +kernel
theorem dL_law_661 : decode cL_law 661 = .ok (.iaload, 1) := by decide +kernel
theorem dL_law_662 : decode cL_law 662 = .ok (.aload_n 3, 1) := by decide +kernel
theorem dL_law_663 : decode cL_law 663 = .ok (.invokestatic 104, 3) := by decide +kernel
theorem dL_law_666 : decode cL_law 666 = .ok (.istore 5, 2) := by decide +kernel
theorem dL_law_668 : decode cL_law 668 = .ok (.aload_n 2, 1) := by decide +kernel
theorem dL_law_669 : decode cL_law 669 = .ok (.aload_n 0, 1) := by decide +kernel
theorem dL_law_670 : decode cL_law 670 = .ok (.iload 4, 2) := by decide +kernel
theorem dL_law_672 : decode cL_law 672 = .ok (.iconst 1, 1) := by decide +kernel
theorem dL_law_673 : decode cL_law 673 = .ok (.iadd, 1) := by decide +kernel
theorem dL_law_674 : decode cL_law 674 = .ok (.iaload, 1) := by decide +kernel
theorem dL_law_675 : decode cL_law 675 = .ok (.aload_n 0, 1) := by decide +kernel
theorem dL_law_676 : decode cL_law 676 = .ok (.iload 4, 2) := by decide +kernel
theorem dL_law_678 : decode cL_law 678 = .ok (.iconst 2, 1) := by decide +kernel
theorem dL_law_679 : decode cL_law 679 = .ok (.iadd, 1) := by decide +kernel
theorem dL_law_680 : decode cL_law 680 = .ok (.iaload, 1) := by decide +kernel
theorem dL_law_681 : decode cL_law 681 = .ok (.invokevirtual 106, 3) := by decide +kernel
theorem dL_law_684 : decode cL_law 684 = .ok (.istore 6, 2) := by decide +kernel
theorem dL_law_686 : decode cL_law 686 = .ok (.aload_n 2, 1) := by decide +kernel
theorem dL_law_687 : decode cL_law 687 = .ok (.invokevirtual 77, 3) := by decide +kernel
theorem dL_law_690 : decode cL_law 690 = .ok (.iload 5, 2) := by decide +kernel
theorem dL_law_692 : decode cL_law 692 = .ok (.if_icmp .eq 5, 3) := by decide +kernel
theorem dL_law_695 : decode cL_law 695 = .ok (.iconst 0, 1) := by decide +kernel
theorem dL_law_696 : decode cL_law 696 = .ok (.ireturn, 1) := by decide +kernel
theorem dL_law_697 : decode cL_law 697 = .ok (.iload 5, 2) := by decide +kernel
theorem dL_law_699 : decode cL_law 699 = .ok (.ifCond .ne 15, 3) := by decide +kernel
theorem dL_law_702 : decode cL_law 702 = .ok (.aload_n 3, 1) := by decide +kernel
theorem dL_law_703 : decode cL_law 703 = .ok (.iconst 0, 1) := by decide +kernel
theorem dL_law_704 : decode cL_law 704 = .ok (.laload, 1) := by decide +kernel
theorem dL_law_705 : decode cL_law 705 = .ok (.iload 6, 2) := by decide +kernel
theorem dL_law_707 : decode cL_law 707 = .ok (.i2l, 1) := by decide +kernel
theorem dL_law_708 : decode cL_law 708 = .ok (.lcmp, 1) := by decide +kernel
theorem dL_law_709 : decode cL_law 709 = .ok (.ifCond .eq 5, 3) := by decide +kernel
theorem dL_law_712 : decode cL_law 712 = .ok (.iconst 0, 1) := by decide +kernel
theorem dL_law_713 : decode cL_law 713 = .ok (.ireturn, 1) := by decide +kernel
theorem dL_law_714 : decode cL_law 714 = .ok (.goto 570, 3) := by decide +kernel
theorem dL_law_717 : decode cL_law 717 = .ok (.aload_n 1, 1) := by decide +kernel
theorem dL_law_718 : decode cL_law 718 = .ok (.aload_n 0, 1) := by decide +kernel
theorem dL_law_719 : decode cL_law 719 = .ok (.iload 4, 2) := by decide +kernel
theorem dL_law_721 : decode cL_law 721 = .ok (.iconst 1, 1) := by decide +kernel
theorem dL_law_722 : decode cL_law 722 = .ok (.iadd, 1) := by decide +kernel
theorem dL_law_723 : decode cL_law 723 = .ok (.iaload, 1) := by decide +kernel
theorem dL_law_724 : decode cL_law 724 = .ok (.aload_n 3, 1) := by decide +kernel
theorem dL_law_725 : decode cL_law 725 = .ok (.invokestatic 107, 3) := by decide +kernel
theorem dL_law_728 : decode cL_law 728 = .ok (.istore 5, 2) := by decide +kernel
theorem dL_law_730 : decode cL_law 730 = .ok (.aload_n 2, 1) := by decide +kernel
theorem dL_law_731 : decode cL_law 731 = .ok (.aload_n 0, 1) := by decide +kernel
theorem dL_law_732 : decode cL_law 732 = .ok (.iload 4, 2) := by decide +kernel
theorem dL_law_734 : decode cL_law 734 = .ok (.iconst 1, 1) := by decide +kernel
theorem dL_law_735 : decode cL_law 735 = .ok (.iadd, 1) := by decide +kernel
theorem dL_law_736 : decode cL_law 736 = .ok (.iaload, 1) := by decide +kernel
theorem dL_law_737 : decode cL_law 737 = .ok (.invokevirtual 109, 3) := by decide +kernel
theorem dL_law_740 : decode cL_law 740 = .ok (.istore 6, 2) := by decide +kernel
theorem dL_law_742 : decode cL_law 742 = .ok (.aload_n 2, 1) := by decide +kernel
theorem dL_law_743 : decode cL_law 743 = .ok (.invokevirtual 77, 3) := by decide +kernel
theorem dL_law_746 : decode cL_law 746 = .ok (.iload 5, 2) := by decide +kernel
theorem dL_law_748 : decode cL_law 748 = .ok (.if_icmp .eq 5, 3) := by decide +kernel
theorem dL_law_751 : decode cL_law 751 = .ok (.iconst 0, 1) := by decide +kernel
theorem dL_law_752 : decode cL_law 752 = .ok (.ireturn, 1) := by decide +kernel
theorem dL_law_753 : decode cL_law 753 = .ok (.iload 5, 2) := by decide +kernel
theorem dL_law_755 : decode cL_law 755 = .ok (.ifCond .ne 15, 3) := by decide +kernel
theorem dL_law_758 : decode cL_law 758 = .ok (.aload_n 3, 1) := by decide +kernel
theorem dL_law_759 : decode cL_law 759 = .ok (.iconst 0, 1) := by decide +kernel
theorem dL_law_760 : decode cL_law 760 = .ok (.laload, 1) := by decide +kernel
theorem dL_law_761 : decode cL_law 761 = .ok (.iload 6, 2) := by decide +kernel
theorem dL_law_763 : decode cL_law 763 = .ok (.i2l, 1) := by decide +kernel
theorem dL_law_764 : decode cL_law 764 = .ok (.lcmp, 1) := by decide +kernel
theorem dL_law_765 : decode cL_law 765 = .ok (.ifCond .eq 5, 3) := by decide +kernel
theorem dL_law_768 : decode cL_law 768 = .ok (.iconst 0, 1) := by decide +kernel
theorem dL_law_769 : decode cL_law 769 = .ok (.ireturn, 1) := by decide +kernel
theorem dL_law_770 : decode cL_law 770 = .ok (.goto 514, 3) := by decide +kernel
theorem dL_law_773 : decode cL_law 773 = .ok (.aload_n 1, 1) := by decide +kernel
theorem dL_law_774 : decode cL_law 774 = .ok (.aload_n 0, 1) := by decide +kernel
theorem dL_law_775 : decode cL_law 775 = .ok (.iload 4, 2) := by decide +kernel
theorem dL_law_777 : decode cL_law 777 = .ok (.iconst 1, 1) := by decide +kernel
theorem dL_law_778 : decode cL_law 778 = .ok (.iadd, 1) := by decide +kernel
theorem dL_law_779 : decode cL_law 779 = .ok (.iaload, 1) := by decide +kernel
theorem dL_law_780 : decode cL_law 780 = .ok (.aload_n 0, 1) := by decide +kernel
theorem dL_law_781 : decode cL_law 781 = .ok (.iload 4, 2) := by decide +kernel
theorem dL_law_783 : decode cL_law 783 = .ok (.iconst 2, 1) := by decide +kernel
theorem dL_law_784 : decode cL_law 784 = .ok (.iadd, 1) := by decide +kernel
theorem dL_law_785 : decode cL_law 785 = .ok (.iaload, 1) := by decide +kernel
theorem dL_law_786 : decode cL_law 786 = .ok (.aload_n 3, 1) := by decide +kernel
theorem dL_law_787 : decode cL_law 787 = .ok (.invokestatic 110, 3) := by decide +kernel
theorem dL_law_790 : decode cL_law 790 = .ok (.istore 5, 2) := by decide +kernel
theorem dL_law_792 : decode cL_law 792 = .ok (.aload_n 2, 1) := by decide +kernel
theorem dL_law_793 : decode cL_law 793 = .ok (.aload_n 0, 1) := by decide +kernel
theorem dL_law_794 : decode cL_law 794 = .ok (.iload 4, 2) := by decide +kernel
theorem dL_law_796 : decode cL_law 796 = .ok (.iconst 1, 1) := by decide +kernel
theorem dL_law_797 : decode cL_law 797 = .ok (.iadd, 1) := by decide +kernel
theorem dL_law_798 : decode cL_law 798 = .ok (.iaload, 1) := by decide +kernel
theorem dL_law_799 : decode cL_law 799 = .ok (.aload_n 0, 1) := by decide +kernel
theorem dL_law_800 : decode cL_law 800 = .ok (.iload 4, 2) := by decide +kernel
theorem dL_law_802 : decode cL_law 802 = .ok (.iconst 2, 1) := by decide +kernel
theorem dL_law_803 : decode cL_law 803 = .ok (.iadd, 1) := by decide +kernel
theorem dL_law_804 : decode cL_law 804 = .ok (.iaload, 1) := by decide +kernel
theorem dL_law_805 : decode cL_law 805 = .ok (.invokevirtual 112, 3) := by decide +kernel
theorem dL_law_808 : decode cL_law 808 = .ok (.istore 6, 2) := by decide +kernel
theorem dL_law_810 : decode cL_law 810 = .ok (.aload_n 2, 1) := by decide +kernel
theorem dL_law_811 : decode cL_law 811 = .ok (.invokevirtual 77, 3) := by decide +kernel
theorem dL_law_814 : decode cL_law 814 = .ok (.iload 5, 2) := by decide +kernel
theorem dL_law_816 : decode cL_law 816 = .ok (.if_icmp .eq 5, 3) := by decide +kernel
theorem dL_law_819 : decode cL_law 819 = .ok (.iconst 0, 1) := by decide +kernel
theorem dL_law_820 : decode cL_law 820 = .ok (.ireturn, 1) := by decide +kernel
theorem dL_law_821 : decode cL_law 821 = .ok (.iload 5, 2) := by decide +kernel
theorem dL_law_823 : decode cL_law 823 = .ok (.ifCond .ne 15, 3) := by decide +kernel
theorem dL_law_826 : decode cL_law 826 = .ok (.aload_n 3, 1) := by decide +kernel
theorem dL_law_827 : decode cL_law 827 = .ok (.iconst 0, 1) := by decide +kernel
theorem dL_law_828 : decode cL_law 828 = .ok (.laload, 1) := by decide +kernel
theorem dL_law_829 : decode cL_law 829 = .ok (.iload 6, 2) := by decide +kernel
theorem dL_law_831 : decode cL_law 831 = .ok (.i2l, 1) := by decide +kernel
theorem dL_law_832 : decode cL_law 832 = .ok (.lcmp, 1) := by decide +kernel
theorem dL_law_833 : decode cL_law 833 = .ok (.ifCond .eq 5, 3) := by decide +kernel
theorem dL_law_836 : decode cL_law 836 = .ok (.iconst 0, 1) := by decide +kernel
theorem dL_law_837 : decode cL_law 837 = .ok (.ireturn, 1) := by decide +kernel
theorem dL_law_838 : decode cL_law 838 = .ok (.goto 446, 3) := by decide +kernel
theorem dL_law_841 : decode cL_law 841 = .ok (.aload_n 1, 1) := by decide +kernel
theorem dL_law_842 : decode cL_law 842 = .ok (.aload_n 0, 1) := by decide +kernel
theorem dL_law_843 : decode cL_law 843 = .ok (.iload 4, 2) := by decide +kernel
theorem dL_law_845 : decode cL_law 845 = .ok (.iconst 1, 1) := by decide +kernel
theorem dL_law_846 : decode cL_law 846 = .ok (.iadd, 1) := by decide +kernel
theorem dL_law_847 : decode cL_law 847 = .ok (.iaload, 1) := by decide +kernel
theorem dL_law_848 : decode cL_law 848 = .ok (.aload_n 0, 1) := by decide +kernel
theorem dL_law_849 : decode cL_law 849 = .ok (.iload 4, 2) := by decide +kernel
theorem dL_law_851 : decode cL_law 851 = .ok (.iconst 2, 1) := by decide +kernel
theorem dL_law_852 : decode cL_law 852 = .ok (.iadd, 1) := by decide +kernel
theorem dL_law_853 : decode cL_law 853 = .ok (.iaload, 1) := by decide +kernel
theorem dL_law_854 : decode cL_law 854 = .ok (.aload_n 3, 1) := by decide +kernel
theorem dL_law_855 : decode cL_law 855 = .ok (.invokestatic 113, 3) := by decide +kernel
theorem dL_law_858 : decode cL_law 858 = .ok (.istore 5, 2) := by decide +kernel
theorem dL_law_860 : decode cL_law 860 = .ok (.aload_n 2, 1) := by decide +kernel
theorem dL_law_861 : decode cL_law 861 = .ok (.aload_n 0, 1) := by decide +kernel
theorem dL_law_862 : decode cL_law 862 = .ok (.iload 4, 2) := by decide +kernel
theorem dL_law_864 : decode cL_law 864 = .ok (.iconst 1, 1) := by decide +kernel
theorem dL_law_865 : decode cL_law 865 = .ok (.iadd, 1) := by decide +kernel
theorem dL_law_866 : decode cL_law 866 = .ok (.iaload, 1) := by decide +kernel
theorem dL_law_867 : decode cL_law 867 = .ok (.aload_n 0, 1) := by decide +kernel
theorem dL_law_868 : decode cL_law 868 = .ok (.iload 4, 2) := by decide +kernel
theorem dL_law_870 : decode cL_law 870 = .ok (.iconst 2, 1) := by decide +kernel
theorem dL_law_871 : decode cL_law 871 = .ok (.iadd, 1) := by decide +kernel
theorem dL_law_872 : decode cL_law 872 = .ok (.iaload, 1) := by decide +kernel
theorem dL_law_873 : decode cL_law 873 = .ok (.invokevirtual 115, 3) := by decide +kernel
theorem dL_law_876 : decode cL_law 876 = .ok (.istore 6, 2) := by decide +kernel
theorem dL_law_878 : decode cL_law 878 = .ok (.aload_n 2, 1) := by decide +kernel
theorem dL_law_879 : decode cL_law 879 = .ok (.invokevirtual 77, 3) := by decide +kernel
theorem dL_law_882 : decode cL_law 882 = .ok (.iload 5, 2) := by decide +kernel
theorem dL_law_884 : decode cL_law 884 = .ok (.if_icmp .eq 5, 3) := by decide +kernel
theorem dL_law_887 : decode cL_law 887 = .ok (.iconst 0, 1) := by decide +kernel
theorem dL_law_888 : decode cL_law 888 = .ok (.ireturn, 1) := by decide +kernel
theorem dL_law_889 : decode cL_law 889 = .ok (.iload 5, 2) := by decide +kernel
theorem dL_law_891 : decode cL_law 891 = .ok (.ifCond .ne 15, 3) := by decide +kernel
theorem dL_law_894 : decode cL_law 894 = .ok (.aload_n 3, 1) := by decide +kernel
theorem dL_law_895 : decode cL_law 895 = .ok (.iconst 0, 1) := by decide +kernel
theorem dL_law_896 : decode cL_law 896 = .ok (.laload, 1) := by decide +kernel
theorem dL_law_897 : decode cL_law 897 = .ok (.iload 6, 2) := by decide +kernel
theorem dL_law_899 : decode cL_law 899 = .ok (.i2l, 1) := by decide +kernel
theorem dL_law_900 : decode cL_law 900 = .ok (.lcmp, 1) := by decide +kernel
theorem dL_law_901 : decode cL_law 901 = .ok (.ifCond .eq 5, 3) := by decide +kernel
theorem dL_law_904 : decode cL_law 904 = .ok (.iconst 0, 1) := by decide +kernel
theorem dL_law_905 : decode cL_law 905 = .ok (.ireturn, 1) := by decide +kernel
theorem dL_law_906 : decode cL_law 906 = .ok (.goto 378, 3) := by decide +kernel
theorem dL_law_909 : decode cL_law 909 = .ok (.aload_n 1, 1) := by decide +kernel
theorem dL_law_910 : decode cL_law 910 = .ok (.aload_n 0, 1) := by decide +kernel
theorem dL_law_911 : decode cL_law 911 = .ok (.iload 4, 2) := by decide +kernel
theorem dL_law_913 : decode cL_law 913 = .ok (.iconst 1, 1) := by decide +kernel
theorem dL_law_914 : decode cL_law 914 = .ok (.iadd, 1) := by decide +kernel
theorem dL_law_915 : decode cL_law 915 = .ok (.iaload, 1) := by decide +kernel
theorem dL_law_916 : decode cL_law 916 = .ok (.aload_n 3, 1) := by decide +kernel
theorem dL_law_917 : decode cL_law 917 = .ok (.invokestatic 116, 3) := by decide +kernel
theorem dL_law_920 : decode cL_law 920 = .ok (.istore 5, 2) := by decide +kernel
theorem dL_law_922 : decode cL_law 922 = .ok (.aload_n 2, 1) := by decide +kernel
theorem dL_law_923 : decode cL_law 923 = .ok (.aload_n 0, 1) := by decide +kernel
theorem dL_law_924 : decode cL_law 924 = .ok (.iload 4, 2) := by decide +kernel
theorem dL_law_926 : decode cL_law 926 = .ok (.iconst 1, 1) := by decide +kernel
theorem dL_law_927 : decode cL_law 927 = .ok (.iadd, 1) := by decide +kernel
theorem dL_law_928 : decode cL_law 928 = .ok (.iaload, 1) := by decide +kernel
theorem dL_law_929 : decode cL_law 929 = .ok (.invokevirtual 118, 3) := by decide +kernel
theorem dL_law_932 : decode cL_law 932 = .ok (.istore 6, 2) := by decide +kernel
theorem dL_law_934 : decode cL_law 934 = .ok (.aload_n 2, 1) := by decide +kernel
theorem dL_law_935 : decode cL_law 935 = .ok (.invokevirtual 77, 3) := by decide +kernel
theorem dL_law_938 : decode cL_law 938 = .ok (.iload 5, 2) := by decide +kernel
theorem dL_law_940 : decode cL_law 940 = .ok (.if_icmp .eq 5, 3) := by decide +kernel
theorem dL_law_943 : decode cL_law 943 = .ok (.iconst 0, 1) := by decide +kernel
theorem dL_law_944 : decode cL_law 944 = .ok (.ireturn, 1) := by decide +kernel
theorem dL_law_945 : decode cL_law 945 = .ok (.iload 5, 2) := by decide +kernel
theorem dL_law_947 : decode cL_law 947 = .ok (.ifCond .ne 15, 3) := by decide +kernel
theorem dL_law_950 : decode cL_law 950 = .ok (.aload_n 3, 1) := by decide +kernel
theorem dL_law_951 : decode cL_law 951 = .ok (.iconst 0, 1) := by decide +kernel
theorem dL_law_952 : decode cL_law 952 = .ok (.laload, 1) := by decide +kernel
theorem dL_law_953 : decode cL_law 953 = .ok (.iload 6, 2) := by decide +kernel
theorem dL_law_955 : decode cL_law 955 = .ok (.i2l, 1) := by decide +kernel
theorem dL_law_956 : decode cL_law 956 = .ok (.lcmp, 1) := by decide +kernel
theorem dL_law_957 : decode cL_law 957 = .ok (.ifCond .eq 5, 3) := by decide +kernel
theorem dL_law_960 : decode cL_law 960 = .ok (.iconst 0, 1) := by decide +kernel
theorem dL_law_961 : decode cL_law 961 = .ok (.ireturn, 1) := by decide +kernel
theorem dL_law_962 : decode cL_law 962 = .ok (.goto 322, 3) := by decide +kernel
theorem dL_law_965 : decode cL_law 965 = .ok (.aload_n 1, 1) := by decide +kernel
theorem dL_law_966 : decode cL_law 966 = .ok (.aload_n 0, 1) := by decide +kernel
theorem dL_law_967 : decode cL_law 967 = .ok (.iload 4, 2) := by decide +kernel
theorem dL_law_969 : decode cL_law 969 = .ok (.iconst 1, 1) := by decide +kernel
theorem dL_law_970 : decode cL_law 970 = .ok (.iadd, 1) := by decide +kernel
theorem dL_law_971 : decode cL_law 971 = .ok (.iaload, 1) := by decide +kernel
theorem dL_law_972 : decode cL_law 972 = .ok (.aload_n 3, 1) := by decide +kernel
theorem dL_law_973 : decode cL_law 973 = .ok (.invokestatic 119, 3) := by decide +kernel
theorem dL_law_976 : decode cL_law 976 = .ok (.istore 5, 2) := by decide +kernel
theorem dL_law_978 : decode cL_law 978 = .ok (.aload_n 2, 1) := by decide +kernel
theorem dL_law_979 : decode cL_law 979 = .ok (.aload_n 0, 1) := by decide +kernel
theorem dL_law_980 : decode cL_law 980 = .ok (.iload 4, 2) := by decide +kernel
theorem dL_law_982 : decode cL_law 982 = .ok (.iconst 1, 1) := by decide +kernel
theorem dL_law_983 : decode cL_law 983 = .ok (.iadd, 1) := by decide +kernel
theorem dL_law_984 : decode cL_law 984 = .ok (.iaload, 1) := by decide +kernel
theorem dL_law_985 : decode cL_law 985 = .ok (.invokevirtual 121, 3) := by decide +kernel
theorem dL_law_988 : decode cL_law 988 = .ok (.istore 6, 2) := by decide +kernel
theorem dL_law_990 : decode cL_law 990 = .ok (.aload_n 2, 1) := by decide +kernel
theorem dL_law_991 : decode cL_law 991 = .ok (.invokevirtual 77, 3) := by decide +kernel
theorem dL_law_994 : decode cL_law 994 = .ok (.iload 5, 2) := by decide +kernel
theorem dL_law_996 : decode cL_law 996 = .ok (.if_icmp .eq 5, 3) := by decide +kernel
theorem dL_law_999 : decode cL_law 999 = .ok (.iconst 0, 1) := by decide +kernel
theorem dL_law_1000 : decode cL_law 1000 = .ok (.ireturn, 1) := by decide +kernel
theorem dL_law_1001 : decode cL_law 1001 = .ok (.iload 5, 2) := by decide +kernel
theorem dL_law_1003 : decode cL_law 1003 = .ok (.ifCond .ne 15, 3) := by decide +kernel
theorem dL_law_1006 : decode cL_law 1006 = .ok (.aload_n 3, 1) := by decide +kernel
theorem dL_law_1007 : decode cL_law 1007 = .ok (.iconst 0, 1) := by decide +kernel
theorem dL_law_1008 : decode cL_law 1008 = .ok (.laload, 1) := by decide +kernel
theorem dL_law_1009 : decode cL_law 1009 = .ok (.iload 6, 2) := by decide +kernel
theorem dL_law_1011 : decode cL_law 1011 = .ok (.i2l, 1) := by decide +kernel
theorem dL_law_1012 : decode cL_law 1012 = .ok (.lcmp, 1) := by decide +kernel
theorem dL_law_1013 : decode cL_law 1013 = .ok (.ifCond .eq 5, 3) := by decide +kernel
theorem dL_law_1016 : decode cL_law 1016 = .ok (.iconst 0, 1) := by decide +kernel
theorem dL_law_1017 : decode cL_law 1017 = .ok (.ireturn, 1) := by decide +kernel
theorem dL_law_1018 : decode cL_law 1018 = .ok (.goto 266, 3) := by decide +kernel
theorem dL_law_1021 : decode cL_law 1021 = .ok (.aload_n 1, 1) := by decide +kernel
theorem dL_law_1022 : decode cL_law 1022 = .ok (.invokevirtual 122, 3) := by decide +kernel
theorem dL_law_1025 : decode cL_law 1025 = .ok (.aload_n 2, 1) := by decide +kernel
theorem dL_law_1026 : decode cL_law 1026 = .ok (.invokevirtual 125, 3) := by decide +kernel
theorem dL_law_1029 : decode cL_law 1029 = .ok (.if_icmp .eq 255, 3) := by decide +kernel
theorem dL_law_1032 : decode cL_law 1032 = .ok (.iconst 0, 1) := by decide +kernel
theorem dL_law_1033 : decode cL_law 1033 = .ok (.ireturn, 1) := by decide +kernel
theorem dL_law_1034 : decode cL_law 1034 = .ok (.aload_n 1, 1) := by decide +kernel
theorem dL_law_1035 : decode cL_law 1035 = .ok (.invokevirtual 126, 3) := by decide +kernel
theorem dL_law_1038 : decode cL_law 1038 = .ok (.aload_n 2, 1) := by decide +kernel
theorem dL_law_1039 : decode cL_law 1039 = .ok (.invokevirtual 129, 3) := by decide +kernel
theorem dL_law_1042 : decode cL_law 1042 = .ok (.if_icmp .eq 242, 3) := by decide +kernel
theorem dL_law_1045 : decode cL_law 1045 = .ok (.iconst 0, 1) := by decide +kernel
theorem dL_law_1046 : decode cL_law 1046 = .ok (.ireturn, 1) := by decide +kernel
theorem dL_law_1047 : decode cL_law 1047 = .ok (.aload_n 1, 1) := by decide +kernel
theorem dL_law_1048 : decode cL_law 1048 = .ok (.aload_n 0, 1) := by decide +kernel
theorem dL_law_1049 : decode cL_law 1049 = .ok (.iload 4, 2) := by decide +kernel
theorem dL_law_1051 : decode cL_law 1051 = .ok (.iconst 1, 1) := by decide +kernel
theorem dL_law_1052 : decode cL_law 1052 = .ok (.iadd, 1) := by decide +kernel
theorem dL_law_1053 : decode cL_law 1053 = .ok (.iaload, 1) := by decide +kernel
theorem dL_law_1054 : decode cL_law 1054 = .ok (.aload_n 3, 1) := by decide +kernel
theorem dL_law_1055 : decode cL_law 1055 = .ok (.invokestatic 130, 3) := by decide +kernel
theorem dL_law_1058 : decode cL_law 1058 = .ok (.istore 5, 2) := by decide +kernel
theorem dL_law_1060 : decode cL_law 1060 = .ok (.aload_n 2, 1) := by decide +kernel
theorem dL_law_1061 : decode cL_law 1061 = .ok (.aload_n 0, 1) := by decide +kernel
theorem dL_law_1062 : decode cL_law 1062 = .ok (.iload 4, 2) := by decide +kernel
theorem dL_law_1064 : decode cL_law 1064 = .ok (.iconst 1, 1) := by decide +kernel
theorem dL_law_1065 : decode cL_law 1065 = .ok (.iadd, 1) := by decide +kernel
theorem dL_law_1066 : decode cL_law 1066 = .ok (.iaload, 1) := by decide +kernel
theorem dL_law_1067 : decode cL_law 1067 = .ok (.invokevirtual 132, 3) := by decide +kernel
theorem dL_law_1070 : decode cL_law 1070 = .ok (.istore 6, 2) := by decide +kernel
theorem dL_law_1072 : decode cL_law 1072 = .ok (.aload_n 2, 1) := by decide +kernel
theorem dL_law_1073 : decode cL_law 1073 = .ok (.invokevirtual 77, 3) := by decide +kernel
theorem dL_law_1076 : decode cL_law 1076 = .ok (.iload 5, 2) := by decide +kernel
theorem dL_law_1078 : decode cL_law 1078 = .ok (.if_icmp .eq 5, 3) := by decide +kernel
theorem dL_law_1081 : decode cL_law 1081 = .ok (.iconst 0, 1) := by decide +kernel
theorem dL_law_1082 : decode cL_law 1082 = .ok (.ireturn, 1) := by decide +kernel
theorem dL_law_1083 : decode cL_law 1083 = .ok (.iload 5, 2) := by decide +kernel
theorem dL_law_1085 : decode cL_law 1085 = .ok (.ifCond .ne 15, 3) := by decide +kernel
theorem dL_law_1088 : decode cL_law 1088 = .ok (.aload_n 3, 1) := by decide +kernel
theorem dL_law_1089 : decode cL_law 1089 = .ok (.iconst 0, 1) := by decide +kernel
theorem dL_law_1090 : decode cL_law 1090 = .ok (.laload, 1) := by decide +kernel
theorem dL_law_1091 : decode cL_law 1091 = .ok (.iload 6, 2) := by decide +kernel
theorem dL_law_1093 : decode cL_law 1093 = .ok (.i2l, 1) := by decide +kernel
theorem dL_law_1094 : decode cL_law 1094 = .ok (.lcmp, 1) := by decide +kernel
theorem dL_law_1095 : decode cL_law 1095 = .ok (.ifCond .eq 5, 3) := by decide +kernel
theorem dL_law_1098 : decode cL_law 1098 = .ok (.iconst 0, 1) := by decide +kernel
theorem dL_law_1099 : decode cL_law 1099 = .ok (.ireturn, 1) := by decide +kernel
theorem dL_law_1100 : decode cL_law 1100 = .ok (.goto 184, 3) := by decide +kernel
theorem dL_law_1103 : decode cL_law 1103 = .ok (.aload_n 1, 1) := by decide +kernel
theorem dL_law_1104 : decode cL_law 1104 = .ok (.invokevirtual 133, 3) := by decide +kernel
theorem dL_law_1107 : decode cL_law 1107 = .ok (.dstore 5, 2) := by decide +kernel
theorem dL_law_1109 : decode cL_law 1109 = .ok (.aload_n 2, 1) := by decide +kernel
theorem dL_law_1110 : decode cL_law 1110 = .ok (.invokevirtual 137, 3) := by decide +kernel
theorem dL_law_1113 : decode cL_law 1113 = .ok (.dstore 7, 2) := by decide +kernel
theorem dL_law_1115 : decode cL_law 1115 = .ok (.dload 5, 2) := by decide +kernel
theorem dL_law_1117 : decode cL_law 1117 = .ok (.dload 7, 2) := by decide +kernel
theorem dL_law_1119 : decode cL_law 1119 = .ok (.dcmp .l, 1) := by decide +kernel
theorem dL_law_1120 : decode cL_law 1120 = .ok (.ifCond .eq 21, 3) := by decide +kernel
theorem dL_law_1123 : decode cL_law 1123 = .ok (.dload 5, 2) := by decide +kernel
theorem dL_law_1125 : decode cL_law 1125 = .ok (.dload 5, 2) := by decide +kernel
theorem dL_law_1127 : decode cL_law 1127 = .ok (.dcmp .l, 1) := by decide +kernel
theorem dL_law_1128 : decode cL_law 1128 = .ok (.ifCond .eq 11, 3) := by decide +kernel
theorem dL_law_1131 : decode cL_law 1131 = .ok (.dload 7, 2) := by decide +kernel
theorem dL_law_1133 : decode cL_law 1133 = .ok (.dload 7, 2) := by decide +kernel
theorem dL_law_1135 : decode cL_law 1135 = .ok (.dcmp .l, 1) := by decide +kernel
theorem dL_law_1136 : decode cL_law 1136 = .ok (.ifCond .ne 5, 3) := by decide +kernel
theorem dL_law_1139 : decode cL_law 1139 = .ok (.iconst 0, 1) := by decide +kernel
theorem dL_law_1140 : decode cL_law 1140 = .ok (.ireturn, 1) := by decide +kernel
theorem dL_law_1141 : decode cL_law 1141 = .ok (.goto 143, 3) := by decide +kernel
theorem dL_law_1144 : decode cL_law 1144 = .ok (.aload_n 1, 1) := by decide +kernel
theorem dL_law_1145 : decode cL_law 1145 = .ok (.aload_n 0, 1) := by decide +kernel
theorem dL_law_1146 : decode cL_law 1146 = .ok (.iload 4, 2) := by decide +kernel
theorem dL_law_1148 : decode cL_law 1148 = .ok (.iconst 1, 1) := by decide +kernel
theorem dL_law_1149 : decode cL_law 1149 = .ok (.iadd, 1) := by decide +kernel
theorem dL_law_1150 : decode cL_law 1150 = .ok (.iaload, 1) := by decide +kernel
theorem dL_law_1151 : decode cL_law 1151 = .ok (.aload_n 3, 1) := by decide +kernel
theorem dL_law_1152 : decode cL_law 1152 = .ok (.invokestatic 138, 3) := by decide +kernel
theorem dL_law_1155 : decode cL_law 1155 = .ok (.istore 5, 2) := by decide +kernel
theorem dL_law_1157 : decode cL_law 1157 = .ok (.aload_n 2, 1) := by decide +kernel
theorem dL_law_1158 : decode cL_law 1158 = .ok (.aload_n 0, 1) := by decide +kernel
theorem dL_law_1159 : decode cL_law 1159 = .ok (.iload 4, 2) := by decide +kernel
theorem dL_law_1161 : decode cL_law 1161 = .ok (.iconst 1, 1) := by decide +kernel
theorem dL_law_1162 : decode cL_law 1162 = .ok (.iadd, 1) := by decide +kernel
theorem dL_law_1163 : decode cL_law 1163 = .ok (.iaload, 1) := by decide +kernel
theorem dL_law_1164 : decode cL_law 1164 = .ok (.invokevirtual 140, 3) := by decide +kernel
theorem dL_law_1167 : decode cL_law 1167 = .ok (.istore 6, 2) := by decide +kernel
theorem dL_law_1169 : decode cL_law 1169 = .ok (.aload_n 2, 1) := by decide +kernel
theorem dL_law_1170 : decode cL_law 1170 = .ok (.invokevirtual 77, 3) := by decide +kernel
theorem dL_law_1173 : decode cL_law 1173 = .ok (.iload 5, 2) := by decide +kernel
theorem dL_law_1175 : decode cL_law 1175 = .ok (.if_icmp .eq 5, 3) := by decide +kernel
theorem dL_law_1178 : decode cL_law 1178 = .ok (.iconst 0, 1) := by decide +kernel
theorem dL_law_1179 : decode cL_law 1179 = .ok (.ireturn, 1) := by decide +kernel
theorem dL_law_1180 : decode cL_law 1180 = .ok (.iload 5, 2) := by decide +kernel
theorem dL_law_1182 : decode cL_law 1182 = .ok (.ifCond .ne 15, 3) := by decide +kernel
theorem dL_law_1185 : decode cL_law 1185 = .ok (.aload_n 3, 1) := by decide +kernel
theorem dL_law_1186 : decode cL_law 1186 = .ok (.iconst 0, 1) := by decide +kernel
theorem dL_law_1187 : decode cL_law 1187 = .ok (.laload, 1) := by decide +kernel
theorem dL_law_1188 : decode cL_law 1188 = .ok (.iload 6, 2) := by decide +kernel
theorem dL_law_1190 : decode cL_law 1190 = .ok (.i2l, 1) := by decide +kernel
theorem dL_law_1191 : decode cL_law 1191 = .ok (.lcmp, 1) := by decide +kernel
theorem dL_law_1192 : decode cL_law 1192 = .ok (.ifCond .eq 5, 3) := by decide +kernel
theorem dL_law_1195 : decode cL_law 1195 = .ok (.iconst 0, 1) := by decide +kernel
theorem dL_law_1196 : decode cL_law 1196 = .ok (.ireturn, 1) := by decide +kernel
theorem dL_law_1197 : decode cL_law 1197 = .ok (.goto 87, 3) := by decide +kernel
theorem dL_law_1200 : decode cL_law 1200 = .ok (.aload_n 1, 1) := by decide +kernel
theorem dL_law_1201 : decode cL_law 1201 = .ok (.invokevirtual 141, 3) := by decide +kernel
theorem dL_law_1204 : decode cL_law 1204 = .ok (.aload_n 2, 1) := by decide +kernel
theorem dL_law_1205 : decode cL_law 1205 = .ok (.invokevirtual 144, 3) := by decide +kernel
theorem dL_law_1208 : decode cL_law 1208 = .ok (.if_icmp .eq 76, 3) := by decide +kernel
theorem dL_law_1211 : decode cL_law 1211 = .ok (.iconst 0, 1) := by decide +kernel
theorem dL_law_1212 : decode cL_law 1212 = .ok (.ireturn, 1) := by decide +kernel
theorem dL_law_1213 : decode cL_law 1213 = .ok (.aload_n 1, 1) := by decide +kernel
theorem dL_law_1214 : decode cL_law 1214 = .ok (.invokevirtual 145, 3) := by decide +kernel
theorem dL_law_1217 : decode cL_law 1217 = .ok (.aload_n 2, 1) := by decide +kernel
theorem dL_law_1218 : decode cL_law 1218 = .ok (.invokevirtual 148, 3) := by decide +kernel
theorem dL_law_1221 : decode cL_law 1221 = .ok (.if_icmp .eq 63, 3) := by decide +kernel
theorem dL_law_1224 : decode cL_law 1224 = .ok (.iconst 0, 1) := by decide +kernel
theorem dL_law_1225 : decode cL_law 1225 = .ok (.ireturn, 1) := by decide +kernel
theorem dL_law_1226 : decode cL_law 1226 = .ok (.aload_n 1, 1) := by decide +kernel
theorem dL_law_1227 : decode cL_law 1227 = .ok (.aload_n 3, 1) := by decide +kernel
theorem dL_law_1228 : decode cL_law 1228 = .ok (.invokestatic 149, 3) := by decide +kernel
theorem dL_law_1231 : decode cL_law 1231 = .ok (.istore 5, 2) := by decide +kernel
theorem dL_law_1233 : decode cL_law 1233 = .ok (.aload_n 2, 1) := by decide +kernel
theorem dL_law_1234 : decode cL_law 1234 = .ok (.invokevirtual 152, 3) := by decide +kernel
theorem dL_law_1237 : decode cL_law 1237 = .ok (.istore 6, 2) := by decide +kernel
theorem dL_law_1239 : decode cL_law 1239 = .ok (.aload_n 2, 1) := by decide +kernel
theorem dL_law_1240 : decode cL_law 1240 = .ok (.invokevirtual 77, 3) := by decide +kernel
theorem dL_law_1243 : decode cL_law 1243 = .ok (.iload 5, 2) := by decide +kernel
theorem dL_law_1245 : decode cL_law 1245 = .ok (.if_icmp .eq 5, 3) := by decide +kernel
theorem dL_law_1248 : decode cL_law 1248 = .ok (.iconst 0, 1) := by decide +kernel
theorem dL_law_1249 : decode cL_law 1249 = .ok (.ireturn, 1) := by decide +kernel
theorem dL_law_1250 : decode cL_law 1250 = .ok (.iload 5, 2) := by decide +kernel
theorem dL_law_1252 : decode cL_law 1252 = .ok (.ifCond .ne 15, 3) := by decide +kernel
theorem dL_law_1255 : decode cL_law 1255 = .ok (.aload_n 3, 1) := by decide +kernel
theorem dL_law_1256 : decode cL_law 1256 = .ok (.iconst 0, 1) := by decide +kernel
theorem dL_law_1257 : decode cL_law 1257 = .ok (.laload, 1) := by decide +kernel
theorem dL_law_1258 : decode cL_law 1258 = .ok (.iload 6, 2) := by decide +kernel
theorem dL_law_1260 : decode cL_law 1260 = .ok (.i2l, 1) := by decide +kernel
theorem dL_law_1261 : decode cL_law 1261 = .ok (.lcmp, 1) := by decide +kernel
theorem dL_law_1262 : decode cL_law 1262 = .ok (.ifCond .eq 5, 3) := by decide +kernel
theorem dL_law_1265 : decode cL_law 1265 = .ok (.iconst 0, 1) := by decide +kernel
theorem dL_law_1266 : decode cL_law 1266 = .ok (.ireturn, 1) := by decide +kernel
theorem dL_law_1267 : decode cL_law 1267 = .ok (.goto 17, 3) := by decide +kernel
theorem dL_law_1270 : decode cL_law 1270 = .ok (.aload_n 1, 1) := by decide +kernel
theorem dL_law_1271 : decode cL_law 1271 = .ok (.invokevirtual 153, 3) := by decide +kernel
theorem dL_law_1274 : decode cL_law 1274 = .ok (.aload_n 2, 1) := by decide +kernel
theorem dL_law_1275 : decode cL_law 1275 = .ok (.invokevirtual 157, 3) := by decide +kernel
theorem dL_law_1278 : decode cL_law 1278 = .ok (.lcmp, 1) := by decide +kernel
theorem dL_law_1279 : decode cL_law 1279 = .ok (.ifCond .eq 5, 3) := by decide +kernel
theorem dL_law_1282 : decode cL_law 1282 = .ok (.iconst 0, 1) := by decide +kernel
theorem dL_law_1283 : decode cL_law 1283 = .ok (.ireturn, 1) := by decide +kernel
theorem dL_law_1284 : decode cL_law 1284 = .ok (.iinc 4 5, 3) := by decide +kernel
theorem dL_law_1287 : decode cL_law 1287 = .ok (.goto (-1264), 3) := by decide +kernel
theorem dL_law_1290 : decode cL_law 1290 = .ok (.iconst 1, 1) := by decide +kernel
theorem dL_law_1291 : decode cL_law 1291 = .ok (.ireturn, 1) := by decide +kernel
