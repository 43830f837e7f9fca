theorem dX1_init_0 : decode cX1_init 0 = .ok (.aload_n 0, 1) := by decide +kernel
theorem dX1_init_1 : decode cX1_init 1 = .ok (.invokespecial 3, 3) := by decide +kernel
theorem dX1_init_4 : decode cX1_init 4 = .ok (.aload_n 0, 1) := by decide +kernel
theorem dX1_init_5 : decode cX1_init 5 = .ok (.bipush 24, 2) := by decide +kernel
theorem dX1_init_7 : decode cX1_init 7 = .ok (.newarray .int, 2) := by decide +kernel
theorem dX1_init_9 : decode cX1_init 9 = .ok (.putfield 9, 3) := by decide +kernel
theorem dX1_init_12 : decode cX1_init 12 = .ok (.aload_n 0, 1) := by decide +kernel
theorem dX1_init_13 : decode cX1_init 13 = .ok (.bipush 6, 2) := by decide +kernel
theorem dX1_init_15 : decode cX1_init 15 = .ok (.newarray .int, 2) := by decide +kernel
theorem dX1_init_17 : decode cX1_init 17 = .ok (.putfield 15, 3) := by decide +kernel
theorem dX1_init_20 : decode cX1_init 20 = .ok (.aload_n 0, 1) := by decide +kernel
theorem dX1_init_21 : decode cX1_init 21 = .ok (.bipush 6, 2) := by decide +kernel
theorem dX1_init_23 : decode cX1_init 23 = .ok (.newarray .boolean, 2) := by decide +kernel
theorem dX1_init_25 : decode cX1_init 25 = .ok (.putfield 18, 3) := by decide +kernel
theorem dX1_init_28 : decode cX1_init 28 = .ok (.aload_n 0, 1) := by decide +kernel
theorem dX1_init_29 : decode cX1_init 29 = .ok (.bipush 6, 2) := by decide +kernel
theorem dX1_init_31 : decode cX1_init 31 = .ok (.newarray .int, 2) := by decide +kernel
theorem dX1_init_33 : decode cX1_init 33 = .ok (.putfield 22, 3) := by decide +kernel
theorem dX1_init_36 : decode cX1_init 36 = .ok (.aload_n 0, 1) := by decide +kernel
theorem dX1_init_37 : decode cX1_init 37 = .ok (.new 25, 3) := by decide +kernel
theorem dX1_init_40 : decode cX1_init 40 = .ok (.dup, 1) := by decide +kernel
theorem dX1_init_41 : decode cX1_init 41 = .ok (.invokespecial 27, 3) := by decide +kernel
theorem dX1_init_44 : decode cX1_init 44 = .ok (.putfield 28, 3) := by decide +kernel
theorem dX1_init_47 : decode cX1_init 47 = .ok (.return_, 1) := by decide +kernel
theorem dX1_open_0 : decode cX1_open 0 = .ok (.aload_n 0, 1) := by decide +kernel
theorem dX1_open_1 : decode cX1_open 1 = .ok (.aload_n 1, 1) := by decide +kernel
theorem dX1_open_2 : decode cX1_open 2 = .ok (.putfield 32, 3) := by decide +kernel
theorem dX1_open_5 : decode cX1_open 5 = .ok (.aload_n 0, 1) := by decide +kernel
theorem dX1_open_6 : decode cX1_open 6 = .ok (.aconst_null, 1) := by decide +kernel
theorem dX1_open_7 : decode cX1_open 7 = .ok (.putfield 36, 3) := by decide +kernel
theorem dX1_open_10 : decode cX1_open 10 = .ok (.aload_n 0, 1) := by decide +kernel
theorem dX1_open_11 : decode cX1_open 11 = .ok (.iconst 0, 1) := by decide +kernel
theorem dX1_open_12 : decode cX1_open 12 = .ok (.putfield 39, 3) := by decide +kernel
theorem dX1_open_15 : decode cX1_open 15 = .ok (.aload_n 0, 1) := by decide +kernel
theorem dX1_open_16 : decode cX1_open 16 = .ok (.iload_n 2, 1) := by decide +kernel
theorem dX1_open_17 : decode cX1_open 17 = .ok (.putfield 43, 3) := by decide +kernel
theorem dX1_open_20 : decode cX1_open 20 = .ok (.aload_n 0, 1) := by decide +kernel
theorem dX1_open_21 : decode cX1_open 21 = .ok (.iload_n 3, 1) := by decide +kernel
theorem dX1_open_22 : decode cX1_open 22 = .ok (.putfield 46, 3) := by decide +kernel
theorem dX1_open_25 : decode cX1_open 25 = .ok (.return_, 1) := by decide +kernel
theorem dX1_getsTo_0 : decode cX1_getsTo 0 = .ok (.aload_n 0, 1) := by decide +kernel
theorem dX1_getsTo_1 : decode cX1_getsTo 1 = .ok (.aload_n 1, 1) := by decide +kernel
theorem dX1_getsTo_2 : decode cX1_getsTo 2 = .ok (.getfield 49, 3) := by decide +kernel
theorem dX1_getsTo_5 : decode cX1_getsTo 5 = .ok (.putfield 32, 3) := by decide +kernel
theorem dX1_getsTo_8 : decode cX1_getsTo 8 = .ok (.aload_n 1, 1) := by decide +kernel
theorem dX1_getsTo_9 : decode cX1_getsTo 9 = .ok (.getfield 54, 3) := by decide +kernel
theorem dX1_getsTo_12 : decode cX1_getsTo 12 = .ok (.bipush 59, 2) := by decide +kernel
theorem dX1_getsTo_14 : decode cX1_getsTo 14 = .ok (.if_icmp .eq 32, 3) := by decide +kernel
theorem dX1_getsTo_17 : decode cX1_getsTo 17 = .ok (.aload_n 1, 1) := by decide +kernel
theorem dX1_getsTo_18 : decode cX1_getsTo 18 = .ok (.getfield 54, 3) := by decide +kernel
theorem dX1_getsTo_21 : decode cX1_getsTo 21 = .ok (.bipush 38, 2) := by decide +kernel
theorem dX1_getsTo_23 : decode cX1_getsTo 23 = .ok (.if_icmp .ne 7, 3) := by decide +kernel
theorem dX1_getsTo_26 : decode cX1_getsTo 26 = .ok (.iconst 1, 1) := by decide +kernel
theorem dX1_getsTo_27 : decode cX1_getsTo 27 = .ok (.goto 4, 3) := by decide +kernel
theorem dX1_getsTo_30 : decode cX1_getsTo 30 = .ok (.iconst 0, 1) := by decide +kernel
theorem dX1_getsTo_31 : decode cX1_getsTo 31 = .ok (.aload_n 0, 1) := by decide +kernel
theorem dX1_getsTo_32 : decode cX1_getsTo 32 = .ok (.getfield 39, 3) := by decide +kernel
theorem dX1_getsTo_35 : decode cX1_getsTo 35 = .ok (.ifCond .ne 7, 3) := by decide +kernel
theorem dX1_getsTo_38 : decode cX1_getsTo 38 = .ok (.iconst 1, 1) := by decide +kernel
theorem dX1_getsTo_39 : decode cX1_getsTo 39 = .ok (.goto 4, 3) := by decide +kernel
theorem dX1_getsTo_42 : decode cX1_getsTo 42 = .ok (.iconst 0, 1) := by decide +kernel
theorem dX1_getsTo_43 : decode cX1_getsTo 43 = .ok (.if_icmp .ne 7, 3) := by decide +kernel
theorem dX1_getsTo_46 : decode cX1_getsTo 46 = .ok (.iconst 1, 1) := by decide +kernel
theorem dX1_getsTo_47 : decode cX1_getsTo 47 = .ok (.goto 4, 3) := by decide +kernel
theorem dX1_getsTo_50 : decode cX1_getsTo 50 = .ok (.iconst 0, 1) := by decide +kernel
theorem dX1_getsTo_51 : decode cX1_getsTo 51 = .ok (.ireturn, 1) := by decide +kernel
theorem dX2_init_0 : decode cX2_init 0 = .ok (.aload_n 0, 1) := by decide +kernel
theorem dX2_init_1 : decode cX2_init 1 = .ok (.invokespecial 3, 3) := by decide +kernel
theorem dX2_init_4 : decode cX2_init 4 = .ok (.aload_n 0, 1) := by decide +kernel
theorem dX2_init_5 : decode cX2_init 5 = .ok (.iconst 5, 1) := by decide +kernel
theorem dX2_init_6 : decode cX2_init 6 = .ok (.newarray .int, 2) := by decide +kernel
theorem dX2_init_8 : decode cX2_init 8 = .ok (.putfield 9, 3) := by decide +kernel
theorem dX2_init_11 : decode cX2_init 11 = .ok (.aload_n 0, 1) := by decide +kernel
theorem dX2_init_12 : decode cX2_init 12 = .ok (.iconst 3, 1) := by decide +kernel
theorem dX2_init_13 : decode cX2_init 13 = .ok (.newarray .int, 2) := by decide +kernel
theorem dX2_init_15 : decode cX2_init 15 = .ok (.putfield 15, 3) := by decide +kernel
theorem dX2_init_18 : decode cX2_init 18 = .ok (.aload_n 0, 1) := by decide +kernel
theorem dX2_init_19 : decode cX2_init 19 = .ok (.bipush (-5), 2) := by decide +kernel
theorem dX2_init_21 : decode cX2_init 21 = .ok (.putfield 18, 3) := by decide +kernel
theorem dX2_init_24 : decode cX2_init 24 = .ok (.aload_n 0, 1) := by decide +kernel
theorem dX2_init_25 : decode cX2_init 25 = .ok (.new 22, 3) := by decide +kernel
theorem dX2_init_28 : decode cX2_init 28 = .ok (.dup, 1) := by decide +kernel
theorem dX2_init_29 : decode cX2_init 29 = .ok (.invokespecial 24, 3) := by decide +kernel
theorem dX2_init_32 : decode cX2_init 32 = .ok (.putfield 25, 3) := by decide +kernel
theorem dX2_init_35 : decode cX2_init 35 = .ok (.aload_n 0, 1) := by decide +kernel
theorem dX2_init_36 : decode cX2_init 36 = .ok (.new 29, 3) := by decide +kernel
theorem dX2_init_39 : decode cX2_init 39 = .ok (.dup, 1) := by decide +kernel
theorem dX2_init_40 : decode cX2_init 40 = .ok (.iconst 5, 1) := by decide +kernel
theorem dX2_init_41 : decode cX2_init 41 = .ok (.invokespecial 31, 3) := by decide +kernel
theorem dX2_init_44 : decode cX2_init 44 = .ok (.putfield 34, 3) := by decide +kernel
theorem dX2_init_47 : decode cX2_init 47 = .ok (.aload_n 0, 1) := by decide +kernel
theorem dX2_init_48 : decode cX2_init 48 = .ok (.new 29, 3) := by decide +kernel
theorem dX2_init_51 : decode cX2_init 51 = .ok (.dup, 1) := by decide +kernel
theorem dX2_init_52 : decode cX2_init 52 = .ok (.bipush 10, 2) := by decide +kernel
theorem dX2_init_54 : decode cX2_init 54 = .ok (.invokespecial 31, 3) := by decide +kernel
theorem dX2_init_57 : decode cX2_init 57 = .ok (.putfield 38, 3) := by decide +kernel
theorem dX2_init_60 : decode cX2_init 60 = .ok (.aload_n 0, 1) := by decide +kernel
theorem dX2_init_61 : decode cX2_init 61 = .ok (.new 29, 3) := by decide +kernel
theorem dX2_init_64 : decode cX2_init 64 = .ok (.dup, 1) := by decide +kernel
theorem dX2_init_65 : decode cX2_init 65 = .ok (.bipush 8, 2) := by decide +kernel
theorem dX2_init_67 : decode cX2_init 67 = .ok (.invokespecial 31, 3) := by decide +kernel
theorem dX2_init_70 : decode cX2_init 70 = .ok (.putfield 41, 3) := by decide +kernel
theorem dX2_init_73 : decode cX2_init 73 = .ok (.iconst 0, 1) := by decide +kernel
theorem dX2_init_74 : decode cX2_init 74 = .ok (.istore_n 1, 1) := by decide +kernel
theorem dX2_init_75 : decode cX2_init 75 = .ok (.iload_n 1, 1) := by decide +kernel
theorem dX2_init_76 : decode cX2_init 76 = .ok (.iconst 3, 1) := by decide +kernel
theorem dX2_init_77 : decode cX2_init 77 = .ok (.if_icmp .ge 17, 3) := by decide +kernel
theorem dX2_init_80 : decode cX2_init 80 = .ok (.aload_n 0, 1) := by decide +kernel
theorem dX2_init_81 : decode cX2_init 81 = .ok (.getfield 15, 3) := by decide +kernel
theorem dX2_init_84 : decode cX2_init 84 = .ok (.iload_n 1, 1) := by decide +kernel
theorem dX2_init_85 : decode cX2_init 85 = .ok (.bipush (-5), 2) := by decide +kernel
theorem dX2_init_87 : decode cX2_init 87 = .ok (.iastore, 1) := by decide +kernel
theorem dX2_init_88 : decode cX2_init 88 = .ok (.iinc 1 1, 3) := by decide +kernel
theorem dX2_init_91 : decode cX2_init 91 = .ok (.goto (-16), 3) := by decide +kernel
theorem dX2_init_94 : decode cX2_init 94 = .ok (.return_, 1) := by decide +kernel
theorem dX2_copyFrom_0 : decode cX2_copyFrom 0 = .ok (.aload_n 1, 1) := by decide +kernel
theorem dX2_copyFrom_1 : decode cX2_copyFrom 1 = .ok (.getfield 9, 3) := by decide +kernel
theorem dX2_copyFrom_4 : decode cX2_copyFrom 4 = .ok (.iconst 0, 1) := by decide +kernel
theorem dX2_copyFrom_5 : decode cX2_copyFrom 5 = .ok (.aload_n 0, 1) := by decide +kernel
theorem dX2_copyFrom_6 : decode cX2_copyFrom 6 = .ok (.getfield 9, 3) := by decide +kernel
theorem dX2_copyFrom_9 : decode cX2_copyFrom 9 = .ok (.iconst 0, 1) := by decide +kernel
theorem dX2_copyFrom_10 : decode cX2_copyFrom 10 = .ok (.iconst 5, 1) := by decide +kernel
theorem dX2_copyFrom_11 : decode cX2_copyFrom 11 = .ok (.invokestatic 44, 3) := by decide +kernel
theorem dX2_copyFrom_14 : decode cX2_copyFrom 14 = .ok (.aload_n 1, 1) := by decide +kernel
theorem dX2_copyFrom_15 : decode cX2_copyFrom 15 = .ok (.getfield 15, 3) := by decide +kernel
theorem dX2_copyFrom_18 : decode cX2_copyFrom 18 = .ok (.iconst 0, 1) := by decide +kernel
theorem dX2_copyFrom_19 : decode cX2_copyFrom 19 = .ok (.aload_n 0, 1) := by decide +kernel
theorem dX2_copyFrom_20 : decode cX2_copyFrom 20 = .ok (.getfield 15, 3) := by decide +kernel
theorem dX2_copyFrom_23 : decode cX2_copyFrom 23 = .ok (.iconst 0, 1) := by decide +kernel
theorem dX2_copyFrom_24 : decode cX2_copyFrom 24 = .ok (.iconst 3, 1) := by decide +kernel
theorem dX2_copyFrom_25 : decode cX2_copyFrom 25 = .ok (.invokestatic 44, 3) := by decide +kernel
theorem dX2_copyFrom_28 : decode cX2_copyFrom 28 = .ok (.aload_n 0, 1) := by decide +kernel
theorem dX2_copyFrom_29 : decode cX2_copyFrom 29 = .ok (.aload_n 1, 1) := by decide +kernel
theorem dX2_copyFrom_30 : decode cX2_copyFrom 30 = .ok (.getfield 18, 3) := by decide +kernel
theorem dX2_copyFrom_33 : decode cX2_copyFrom 33 = .ok (.putfield 18, 3) := by decide +kernel
theorem dX2_copyFrom_36 : decode cX2_copyFrom 36 = .ok (.aload_n 0, 1) := by decide +kernel
theorem dX2_copyFrom_37 : decode cX2_copyFrom 37 = .ok (.getfield 25, 3) := by decide +kernel
theorem dX2_copyFrom_40 : decode cX2_copyFrom 40 = .ok (.aload_n 1, 1) := by decide +kernel
theorem dX2_copyFrom_41 : decode cX2_copyFrom 41 = .ok (.getfield 25, 3) := by decide +kernel
theorem dX2_copyFrom_44 : decode cX2_copyFrom 44 = .ok (.invokevirtual 50, 3) := by decide +kernel
theorem dX2_copyFrom_47 : decode cX2_copyFrom 47 = .ok (.aload_n 0, 1) := by decide +kernel
theorem dX2_copyFrom_48 : decode cX2_copyFrom 48 = .ok (.aload_n 1, 1) := by decide +kernel
theorem dX2_copyFrom_49 : decode cX2_copyFrom 49 = .ok (.getfield 54, 3) := by decide +kernel
theorem dX2_copyFrom_52 : decode cX2_copyFrom 52 = .ok (.putfield 54, 3) := by decide +kernel
theorem dX2_copyFrom_55 : decode cX2_copyFrom 55 = .ok (.aload_n 0, 1) := by decide +kernel
theorem dX2_copyFrom_56 : decode cX2_copyFrom 56 = .ok (.aload_n 1, 1) := by decide +kernel
theorem dX2_copyFrom_57 : decode cX2_copyFrom 57 = .ok (.getfield 57, 3) := by decide +kernel
theorem dX2_copyFrom_60 : decode cX2_copyFrom 60 = .ok (.putfield 57, 3) := by decide +kernel
theorem dX2_copyFrom_63 : decode cX2_copyFrom 63 = .ok (.aload_n 0, 1) := by decide +kernel
theorem dX2_copyFrom_64 : decode cX2_copyFrom 64 = .ok (.getfield 34, 3) := by decide +kernel
theorem dX2_copyFrom_67 : decode cX2_copyFrom 67 = .ok (.aload_n 1, 1) := by decide +kernel
theorem dX2_copyFrom_68 : decode cX2_copyFrom 68 = .ok (.getfield 34, 3) := by decide +kernel
theorem dX2_copyFrom_71 : decode cX2_copyFrom 71 = .ok (.invokevirtual 60, 3) := by decide +kernel
theorem dX2_copyFrom_74 : decode cX2_copyFrom 74 = .ok (.aload_n 0, 1) := by decide +kernel
theorem dX2_copyFrom_75 : decode cX2_copyFrom 75 = .ok (.getfield 38, 3) := by decide +kernel
theorem dX2_copyFrom_78 : decode cX2_copyFrom 78 = .ok (.aload_n 1, 1) := by decide +kernel
theorem dX2_copyFrom_79 : decode cX2_copyFrom 79 = .ok (.getfield 38, 3) := by decide +kernel
theorem dX2_copyFrom_82 : decode cX2_copyFrom 82 = .ok (.invokevirtual 60, 3) := by decide +kernel
theorem dX2_copyFrom_85 : decode cX2_copyFrom 85 = .ok (.aload_n 0, 1) := by decide +kernel
theorem dX2_copyFrom_86 : decode cX2_copyFrom 86 = .ok (.getfield 41, 3) := by decide +kernel
theorem dX2_copyFrom_89 : decode cX2_copyFrom 89 = .ok (.aload_n 1, 1) := by decide +kernel
theorem dX2_copyFrom_90 : decode cX2_copyFrom 90 = .ok (.getfield 41, 3) := by decide +kernel
theorem dX2_copyFrom_93 : decode cX2_copyFrom 93 = .ok (.invokevirtual 60, 3) := by decide +kernel
theorem dX2_copyFrom_96 : decode cX2_copyFrom 96 = .ok (.return_, 1) := by decide +kernel
theorem dX3_init_0 : decode cX3_init 0 = .ok (.aload_n 0, 1) := by decide +kernel
theorem dX3_init_1 : decode cX3_init 1 = .ok (.invokespecial 1, 3) := by decide +kernel
theorem dX3_init_4 : decode cX3_init 4 = .ok (.aload_n 0, 1) := by decide +kernel
theorem dX3_init_5 : decode cX3_init 5 = .ok (.aload_n 1, 1) := by decide +kernel
theorem dX3_init_6 : decode cX3_init 6 = .ok (.putfield 7, 3) := by decide +kernel
theorem dX3_init_9 : decode cX3_init 9 = .ok (.aload_n 0, 1) := by decide +kernel
theorem dX3_init_10 : decode cX3_init 10 = .ok (.iload_n 2, 1) := by decide +kernel
theorem dX3_init_11 : decode cX3_init 11 = .ok (.putfield 13, 3) := by decide +kernel
theorem dX3_init_14 : decode cX3_init 14 = .ok (.aload_n 0, 1) := by decide +kernel
theorem dX3_init_15 : decode cX3_init 15 = .ok (.iload_n 3, 1) := by decide +kernel
theorem dX3_init_16 : decode cX3_init 16 = .ok (.putfield 17, 3) := by decide +kernel
theorem dX3_init_19 : decode cX3_init 19 = .ok (.aload_n 0, 1) := by decide +kernel
theorem dX3_init_20 : decode cX3_init 20 = .ok (.iload 4, 2) := by decide +kernel
theorem dX3_init_22 : decode cX3_init 22 = .ok (.putfield 20, 3) := by decide +kernel
theorem dX3_init_25 : decode cX3_init 25 = .ok (.return_, 1) := by decide +kernel
theorem dX4_init_0 : decode cX4_init 0 = .ok (.aload_n 0, 1) := by decide +kernel
theorem dX4_init_1 : decode cX4_init 1 = .ok (.invokespecial 3, 3) := by decide +kernel
theorem dX4_init_4 : decode cX4_init 4 = .ok (.aload_n 0, 1) := by decide +kernel
theorem dX4_init_5 : decode cX4_init 5 = .ok (.bipush 8, 2) := by decide +kernel
theorem dX4_init_7 : decode cX4_init 7 = .ok (.anewarray 9, 3) := by decide +kernel
theorem dX4_init_10 : decode cX4_init 10 = .ok (.putfield 11, 3) := by decide +kernel
theorem dX4_init_13 : decode cX4_init 13 = .ok (.aload_n 0, 1) := by decide +kernel
theorem dX4_init_14 : decode cX4_init 14 = .ok (.bipush 20, 2) := by decide +kernel
theorem dX4_init_16 : decode cX4_init 16 = .ok (.anewarray 17, 3) := by decide +kernel
theorem dX4_init_19 : decode cX4_init 19 = .ok (.putfield 19, 3) := by decide +kernel
theorem dX4_init_22 : decode cX4_init 22 = .ok (.iconst 0, 1) := by decide +kernel
theorem dX4_init_23 : decode cX4_init 23 = .ok (.istore_n 1, 1) := by decide +kernel
theorem dX4_init_24 : decode cX4_init 24 = .ok (.iload_n 1, 1) := by decide +kernel
theorem dX4_init_25 : decode cX4_init 25 = .ok (.bipush 20, 2) := by decide +kernel
theorem dX4_init_27 : decode cX4_init 27 = .ok (.if_icmp .ge 22, 3) := by decide +kernel
theorem dX4_init_30 : decode cX4_init 30 = .ok (.aload_n 0, 1) := by decide +kernel
theorem dX4_init_31 : decode cX4_init 31 = .ok (.getfield 19, 3) := by decide +kernel
theorem dX4_init_34 : decode cX4_init 34 = .ok (.iload_n 1, 1) := by decide +kernel
theorem dX4_init_35 : decode cX4_init 35 = .ok (.new 17, 3) := by decide +kernel
theorem dX4_init_38 : decode cX4_init 38 = .ok (.dup, 1) := by decide +kernel
theorem dX4_init_39 : decode cX4_init 39 = .ok (.invokespecial 23, 3) := by decide +kernel
theorem dX4_init_42 : decode cX4_init 42 = .ok (.aastore, 1) := by decide +kernel
theorem dX4_init_43 : decode cX4_init 43 = .ok (.iinc 1 1, 3) := by decide +kernel
theorem dX4_init_46 : decode cX4_init 46 = .ok (.goto (-22), 3) := by decide +kernel
theorem dX4_init_49 : decode cX4_init 49 = .ok (.return_, 1) := by decide +kernel
theorem dX4_add_0 : decode cX4_add 0 = .ok (.aload_n 0, 1) := by decide +kernel
theorem dX4_add_1 : decode cX4_add 1 = .ok (.getfield 24, 3) := by decide +kernel
theorem dX4_add_4 : decode cX4_add 4 = .ok (.bipush 8, 2) := by decide +kernel
theorem dX4_add_6 : decode cX4_add 6 = .ok (.if_icmp .lt 6, 3) := by decide +kernel
theorem dX4_add_9 : decode cX4_add 9 = .ok (.bipush (-4), 2) := by decide +kernel
theorem dX4_add_11 : decode cX4_add 11 = .ok (.ireturn, 1) := by decide +kernel
theorem dX4_add_12 : decode cX4_add 12 = .ok (.aload_n 0, 1) := by decide +kernel
theorem dX4_add_13 : decode cX4_add 13 = .ok (.getfield 11, 3) := by decide +kernel
theorem dX4_add_16 : decode cX4_add 16 = .ok (.aload_n 0, 1) := by decide +kernel
theorem dX4_add_17 : decode cX4_add 17 = .ok (.getfield 24, 3) := by decide +kernel
theorem dX4_add_20 : decode cX4_add 20 = .ok (.aload_n 1, 1) := by decide +kernel
theorem dX4_add_21 : decode cX4_add 21 = .ok (.aastore, 1) := by decide +kernel
theorem dX4_add_22 : decode cX4_add 22 = .ok (.aload_n 0, 1) := by decide +kernel
theorem dX4_add_23 : decode cX4_add 23 = .ok (.dup, 1) := by decide +kernel
theorem dX4_add_24 : decode cX4_add 24 = .ok (.getfield 24, 3) := by decide +kernel
theorem dX4_add_27 : decode cX4_add 27 = .ok (.iconst 1, 1) := by decide +kernel
theorem dX4_add_28 : decode cX4_add 28 = .ok (.iadd, 1) := by decide +kernel
theorem dX4_add_29 : decode cX4_add 29 = .ok (.putfield 24, 3) := by decide +kernel
theorem dX4_add_32 : decode cX4_add 32 = .ok (.aload_n 0, 1) := by decide +kernel
theorem dX4_add_33 : decode cX4_add 33 = .ok (.getfield 24, 3) := by decide +kernel
theorem dX4_add_36 : decode cX4_add 36 = .ok (.iconst 1, 1) := by decide +kernel
theorem dX4_add_37 : decode cX4_add 37 = .ok (.isub, 1) := by decide +kernel
theorem dX4_add_38 : decode cX4_add 38 = .ok (.ireturn, 1) := by decide +kernel
theorem dX4_runLine_0 : decode cX4_runLine 0 = .ok (.aload_n 0, 1) := by decide +kernel
theorem dX4_runLine_1 : decode cX4_runLine 1 = .ok (.bipush 60, 2) := by decide +kernel
theorem dX4_runLine_3 : decode cX4_runLine 3 = .ok (.putfield 28, 3) := by decide +kernel
theorem dX4_runLine_6 : decode cX4_runLine 6 = .ok (.aload_n 0, 1) := by decide +kernel
theorem dX4_runLine_7 : decode cX4_runLine 7 = .ok (.iconst 0, 1) := by decide +kernel
theorem dX4_runLine_8 : decode cX4_runLine 8 = .ok (.putfield 31, 3) := by decide +kernel
theorem dX4_runLine_11 : decode cX4_runLine 11 = .ok (.aload_n 1, 1) := by decide +kernel
theorem dX4_runLine_12 : decode cX4_runLine 12 = .ok (.getfield 34, 3) := by decide +kernel
theorem dX4_runLine_15 : decode cX4_runLine 15 = .ok (.iconst 0, 1) := by decide +kernel
theorem dX4_runLine_16 : decode cX4_runLine 16 = .ok (.putfield 40, 3) := by decide +kernel
theorem dX4_runLine_19 : decode cX4_runLine 19 = .ok (.aload_n 1, 1) := by decide +kernel
theorem dX4_runLine_20 : decode cX4_runLine 20 = .ok (.aload_n 0, 1) := by decide +kernel
theorem dX4_runLine_21 : decode cX4_runLine 21 = .ok (.aload_n 1, 1) := by decide +kernel
theorem dX4_runLine_22 : decode cX4_runLine 22 = .ok (.aload_n 0, 1) := by decide +kernel
theorem dX4_runLine_23 : decode cX4_runLine 23 = .ok (.iload_n 2, 1) := by decide +kernel
theorem dX4_runLine_24 : decode cX4_runLine 24 = .ok (.invokevirtual 45, 3) := by decide +kernel
theorem dX4_runLine_27 : decode cX4_runLine 27 = .ok (.iconst 0, 1) := by decide +kernel
theorem dX4_runLine_28 : decode cX4_runLine 28 = .ok (.iconst 0, 1) := by decide +kernel
theorem dX4_runLine_29 : decode cX4_runLine 29 = .ok (.iconst 0, 1) := by decide +kernel
theorem dX4_runLine_30 : decode cX4_runLine 30 = .ok (.aload_n 1, 1) := by decide +kernel
theorem dX4_runLine_31 : decode cX4_runLine 31 = .ok (.getfield 34, 3) := by decide +kernel
theorem dX4_runLine_34 : decode cX4_runLine 34 = .ok (.invokevirtual 49, 3) := by decide +kernel
theorem dX4_runLine_37 : decode cX4_runLine 37 = .ok (.putfield 53, 3) := by decide +kernel
theorem dX4_runLine_40 : decode cX4_runLine 40 = .ok (.aload_n 1, 1) := by decide +kernel
theorem dX4_runLine_41 : decode cX4_runLine 41 = .ok (.getfield 53, 3) := by decide +kernel
theorem dX4_runLine_44 : decode cX4_runLine 44 = .ok (.ifCond .eq 33, 3) := by decide +kernel
theorem dX4_runLine_47 : decode cX4_runLine 47 = .ok (.aload_n 1, 1) := by decide +kernel
theorem dX4_runLine_48 : decode cX4_runLine 48 = .ok (.getfield 56, 3) := by decide +kernel
theorem dX4_runLine_51 : decode cX4_runLine 51 = .ok (.bipush (-5), 2) := by decide +kernel
theorem dX4_runLine_53 : decode cX4_runLine 53 = .ok (.if_icmp .eq 24, 3) := by decide +kernel
theorem dX4_runLine_56 : decode cX4_runLine 56 = .ok (.aload_n 0, 1) := by decide +kernel
theorem dX4_runLine_57 : decode cX4_runLine 57 = .ok (.aload_n 1, 1) := by decide +kernel
theorem dX4_runLine_58 : decode cX4_runLine 58 = .ok (.aload_n 0, 1) := by decide +kernel
theorem dX4_runLine_59 : decode cX4_runLine 59 = .ok (.aload_n 1, 1) := by decide +kernel
theorem dX4_runLine_60 : decode cX4_runLine 60 = .ok (.getfield 56, 3) := by decide +kernel
theorem dX4_runLine_63 : decode cX4_runLine 63 = .ok (.invokevirtual 45, 3) := by decide +kernel
theorem dX4_runLine_66 : decode cX4_runLine 66 = .ok (.iconst 0, 1) := by decide +kernel
theorem dX4_runLine_67 : decode cX4_runLine 67 = .ok (.iconst 0, 1) := by decide +kernel
theorem dX4_runLine_68 : decode cX4_runLine 68 = .ok (.iconst 0, 1) := by decide +kernel
theorem dX4_runLine_69 : decode cX4_runLine 69 = .ok (.aload_n 1, 1) := by decide +kernel
theorem dX4_runLine_70 : decode cX4_runLine 70 = .ok (.getfield 34, 3) := by decide +kernel
theorem dX4_runLine_73 : decode cX4_runLine 73 = .ok (.invokevirtual 49, 3) := by decide +kernel
theorem dX4_runLine_76 : decode cX4_runLine 76 = .ok (.pop, 1) := by decide +kernel
theorem dX4_runLine_77 : decode cX4_runLine 77 = .ok (.aload_n 1, 1) := by decide +kernel
theorem dX4_runLine_78 : decode cX4_runLine 78 = .ok (.aload_n 0, 1) := by decide +kernel
theorem dX4_runLine_79 : decode cX4_runLine 79 = .ok (.getfield 31, 3) := by decide +kernel
theorem dX4_runLine_82 : decode cX4_runLine 82 = .ok (.putfield 59, 3) := by decide +kernel
theorem dX4_runLine_85 : decode cX4_runLine 85 = .ok (.return_, 1) := by decide +kernel
theorem dX4_firstOf_0 : decode cX4_firstOf 0 = .ok (.iload_n 1, 1) := by decide +kernel
theorem dX4_firstOf_1 : decode cX4_firstOf 1 = .ok (.ifCond .lt 23, 3) := by decide +kernel
theorem dX4_firstOf_4 : decode cX4_firstOf 4 = .ok (.iload_n 1, 1) := by decide +kernel
theorem dX4_firstOf_5 : decode cX4_firstOf 5 = .ok (.aload_n 0, 1) := by decide +kernel
theorem dX4_firstOf_6 : decode cX4_firstOf 6 = .ok (.getfield 24, 3) := by decide +kernel
theorem dX4_firstOf_9 : decode cX4_firstOf 9 = .ok (.if_icmp .ge 15, 3) := by decide +kernel
theorem dX4_firstOf_12 : decode cX4_firstOf 12 = .ok (.aload_n 0, 1) := by decide +kernel
theorem dX4_firstOf_13 : decode cX4_firstOf 13 = .ok (.getfield 11, 3) := by decide +kernel
theorem dX4_firstOf_16 : decode cX4_firstOf 16 = .ok (.iload_n 1, 1) := by decide +kernel
theorem dX4_firstOf_17 : decode cX4_firstOf 17 = .ok (.aaload, 1) := by decide +kernel
theorem dX4_firstOf_18 : decode cX4_firstOf 18 = .ok (.getfield 60, 3) := by decide +kernel
theorem dX4_firstOf_21 : decode cX4_firstOf 21 = .ok (.goto 4, 3) := by decide +kernel
theorem dX4_firstOf_24 : decode cX4_firstOf 24 = .ok (.aconst_null, 1) := by decide +kernel
theorem dX4_firstOf_25 : decode cX4_firstOf 25 = .ok (.areturn, 1) := by decide +kernel
theorem dX4_goList_0 : decode cX4_goList 0 = .ok (.aload_n 0, 1) := by decide +kernel
theorem dX4_goList_1 : decode cX4_goList 1 = .ok (.getfield 19, 3) := by decide +kernel
theorem dX4_goList_4 : decode cX4_goList 4 = .ok (.iload 5, 2) := by decide +kernel
theorem dX4_goList_6 : decode cX4_goList 6 = .ok (.aaload, 1) := by decide +kernel
theorem dX4_goList_7 : decode cX4_goList 7 = .ok (.astore 7, 2) := by decide +kernel
theorem dX4_goList_9 : decode cX4_goList 9 = .ok (.aload 7, 2) := by decide +kernel
theorem dX4_goList_11 : decode cX4_goList 11 = .ok (.aload_n 2, 1) := by decide +kernel
theorem dX4_goList_12 : decode cX4_goList 12 = .ok (.iload_n 3, 1) := by decide +kernel
theorem dX4_goList_13 : decode cX4_goList 13 = .ok (.iload 4, 2) := by decide +kernel
theorem dX4_goList_15 : decode cX4_goList 15 = .ok (.invokevirtual 64, 3) := by decide +kernel
theorem dX4_goList_18 : decode cX4_goList 18 = .ok (.iconst 0, 1) := by decide +kernel
theorem dX4_goList_19 : decode cX4_goList 19 = .ok (.istore 8, 2) := by decide +kernel
theorem dX4_goList_21 : decode cX4_goList 21 = .ok (.iload 8, 2) := by decide +kernel
theorem dX4_goList_23 : decode cX4_goList 23 = .ok (.ldc 68, 2) := by decide +kernel
theorem dX4_goList_25 : decode cX4_goList 25 = .ok (.if_icmp .ge 42, 3) := by decide +kernel
theorem dX4_goList_28 : decode cX4_goList 28 = .ok (.aload_n 0, 1) := by decide +kernel
theorem dX4_goList_29 : decode cX4_goList 29 = .ok (.aload_n 1, 1) := by decide +kernel
theorem dX4_goList_30 : decode cX4_goList 30 = .ok (.aload 7, 2) := by decide +kernel
theorem dX4_goList_32 : decode cX4_goList 32 = .ok (.iload 5, 2) := by decide +kernel
theorem dX4_goList_34 : decode cX4_goList 34 = .ok (.invokevirtual 69, 3) := by decide +kernel
theorem dX4_goList_37 : decode cX4_goList 37 = .ok (.lstore 9, 2) := by decide +kernel
theorem dX4_goList_39 : decode cX4_goList 39 = .ok (.lload 9, 2) := by decide +kernel
theorem dX4_goList_41 : decode cX4_goList 41 = .ok (.ldc2_w 73, 3) := by decide +kernel
theorem dX4_goList_44 : decode cX4_goList 44 = .ok (.lcmp, 1) := by decide +kernel
theorem dX4_goList_45 : decode cX4_goList 45 = .ok (.ifCond .ne 9, 3) := by decide +kernel
theorem dX4_goList_48 : decode cX4_goList 48 = .ok (.aload 7, 2) := by decide +kernel
theorem dX4_goList_50 : decode cX4_goList 50 = .ok (.getfield 75, 3) := by decide +kernel
theorem dX4_goList_53 : decode cX4_goList 53 = .ok (.ireturn, 1) := by decide +kernel
theorem dX4_goList_54 : decode cX4_goList 54 = .ok (.aload 6, 2) := by decide +kernel
theorem dX4_goList_56 : decode cX4_goList 56 = .ok (.lload 9, 2) := by decide +kernel
theorem dX4_goList_58 : decode cX4_goList 58 = .ok (.invokevirtual 76, 3) := by decide +kernel
theorem dX4_goList_61 : decode cX4_goList 61 = .ok (.iinc 8 1, 3) := by decide +kernel
theorem dX4_goList_64 : decode cX4_goList 64 = .ok (.goto (-43), 3) := by decide +kernel
theorem dX4_goList_67 : decode cX4_goList 67 = .ok (.aload 7, 2) := by decide +kernel
theorem dX4_goList_69 : decode cX4_goList 69 = .ok (.getfield 75, 3) := by decide +kernel
theorem dX4_goList_72 : decode cX4_goList 72 = .ok (.ireturn, 1) := by decide +kernel
theorem dX4_goOn_0 : decode cX4_goOn 0 = .ok (.iconst 0, 1) := by decide +kernel
theorem dX4_goOn_1 : decode cX4_goOn 1 = .ok (.istore 4, 2) := by decide +kernel
theorem dX4_goOn_3 : decode cX4_goOn 3 = .ok (.iload 4, 2) := by decide +kernel
theorem dX4_goOn_5 : decode cX4_goOn 5 = .ok (.bipush 100, 2) := by decide +kernel
theorem dX4_goOn_7 : decode cX4_goOn 7 = .ok (.if_icmp .gt 88, 3) := by decide +kernel
theorem dX4_goOn_10 : decode cX4_goOn 10 = .ok (.aload_n 2, 1) := by decide +kernel
theorem dX4_goOn_11 : decode cX4_goOn 11 = .ok (.getfield 80, 3) := by decide +kernel
theorem dX4_goOn_14 : decode cX4_goOn 14 = .ok (.ifnonnull 24, 3) := by decide +kernel
theorem dX4_goOn_17 : decode cX4_goOn 17 = .ok (.aload_n 2, 1) := by decide +kernel
theorem dX4_goOn_18 : decode cX4_goOn 18 = .ok (.getfield 83, 3) := by decide +kernel
theorem dX4_goOn_21 : decode cX4_goOn 21 = .ok (.ifnonnull 7, 3) := by decide +kernel
theorem dX4_goOn_24 : decode cX4_goOn 24 = .ok (.ldc2_w 73, 3) := by decide +kernel
theorem dX4_goOn_27 : decode cX4_goOn 27 = .ok (.lreturn, 1) := by decide +kernel
theorem dX4_goOn_28 : decode cX4_goOn 28 = .ok (.aload_n 0, 1) := by decide +kernel
theorem dX4_goOn_29 : decode cX4_goOn 29 = .ok (.aload_n 1, 1) := by decide +kernel
theorem dX4_goOn_30 : decode cX4_goOn 30 = .ok (.aload_n 2, 1) := by decide +kernel
theorem dX4_goOn_31 : decode cX4_goOn 31 = .ok (.aload_n 2, 1) := by decide +kernel
theorem dX4_goOn_32 : decode cX4_goOn 32 = .ok (.getfield 83, 3) := by decide +kernel
theorem dX4_goOn_35 : decode cX4_goOn 35 = .ok (.invokevirtual 86, 3) := by decide +kernel
theorem dX4_goOn_38 : decode cX4_goOn 38 = .ok (.aload_n 2, 1) := by decide +kernel
theorem dX4_goOn_39 : decode cX4_goOn 39 = .ok (.getfield 80, 3) := by decide +kernel
theorem dX4_goOn_42 : decode cX4_goOn 42 = .ok (.ifnull 47, 3) := by decide +kernel
theorem dX4_goOn_45 : decode cX4_goOn 45 = .ok (.aload_n 0, 1) := by decide +kernel
theorem dX4_goOn_46 : decode cX4_goOn 46 = .ok (.aload_n 1, 1) := by decide +kernel
theorem dX4_goOn_47 : decode cX4_goOn 47 = .ok (.aload_n 2, 1) := by decide +kernel
theorem dX4_goOn_48 : decode cX4_goOn 48 = .ok (.iload_n 3, 1) := by decide +kernel
theorem dX4_goOn_49 : decode cX4_goOn 49 = .ok (.invokevirtual 90, 3) := by decide +kernel
theorem dX4_goOn_52 : decode cX4_goOn 52 = .ok (.lstore 5, 2) := by decide +kernel
theorem dX4_goOn_54 : decode cX4_goOn 54 = .ok (.lload 5, 2) := by decide +kernel
theorem dX4_goOn_56 : decode cX4_goOn 56 = .ok (.ldc2_w 73, 3) := by decide +kernel
theorem dX4_goOn_59 : decode cX4_goOn 59 = .ok (.lcmp, 1) := by decide +kernel
theorem dX4_goOn_60 : decode cX4_goOn 60 = .ok (.ifCond .eq 6, 3) := by decide +kernel
theorem dX4_goOn_63 : decode cX4_goOn 63 = .ok (.lload 5, 2) := by decide +kernel
theorem dX4_goOn_65 : decode cX4_goOn 65 = .ok (.lreturn, 1) := by decide +kernel
theorem dX4_goOn_66 : decode cX4_goOn 66 = .ok (.aload_n 2, 1) := by decide +kernel
theorem dX4_goOn_67 : decode cX4_goOn 67 = .ok (.aload_n 2, 1) := by decide +kernel
theorem dX4_goOn_68 : decode cX4_goOn 68 = .ok (.getfield 93, 3) := by decide +kernel
theorem dX4_goOn_71 : decode cX4_goOn 71 = .ok (.aload_n 2, 1) := by decide +kernel
theorem dX4_goOn_72 : decode cX4_goOn 72 = .ok (.getfield 80, 3) := by decide +kernel
theorem dX4_goOn_75 : decode cX4_goOn 75 = .ok (.getfield 97, 3) := by decide +kernel
theorem dX4_goOn_78 : decode cX4_goOn 78 = .ok (.iconst 1, 1) := by decide +kernel
theorem dX4_goOn_79 : decode cX4_goOn 79 = .ok (.isub, 1) := by decide +kernel
theorem dX4_goOn_80 : decode cX4_goOn 80 = .ok (.iaload, 1) := by decide +kernel
theorem dX4_goOn_81 : decode cX4_goOn 81 = .ok (.putfield 75, 3) := by decide +kernel
theorem dX4_goOn_84 : decode cX4_goOn 84 = .ok (.aload_n 2, 1) := by decide +kernel
theorem dX4_goOn_85 : decode cX4_goOn 85 = .ok (.aconst_null, 1) := by decide +kernel
theorem dX4_goOn_86 : decode cX4_goOn 86 = .ok (.putfield 80, 3) := by decide +kernel
theorem dX4_goOn_89 : decode cX4_goOn 89 = .ok (.iinc 4 1, 3) := by decide +kernel
theorem dX4_goOn_92 : decode cX4_goOn 92 = .ok (.goto (-89), 3) := by decide +kernel
theorem dX4_goOn_95 : decode cX4_goOn 95 = .ok (.ldc2_w 73, 3) := by decide +kernel
theorem dX4_goOn_98 : decode cX4_goOn 98 = .ok (.lreturn, 1) := by decide +kernel
theorem dX4_beginNext_0 : decode cX4_beginNext 0 = .ok (.aload_n 2, 1) := by decide +kernel
theorem dX4_beginNext_1 : decode cX4_beginNext 1 = .ok (.aload_n 3, 1) := by decide +kernel
theorem dX4_beginNext_2 : decode cX4_beginNext 2 = .ok (.invokevirtual 100, 3) := by decide +kernel
theorem dX4_beginNext_5 : decode cX4_beginNext 5 = .ok (.ifCond .ne 4, 3) := by decide +kernel
theorem dX4_beginNext_8 : decode cX4_beginNext 8 = .ok (.return_, 1) := by decide +kernel
theorem dX4_beginNext_9 : decode cX4_beginNext 9 = .ok (.aload_n 0, 1) := by decide +kernel
theorem dX4_beginNext_10 : decode cX4_beginNext 10 = .ok (.getfield 28, 3) := by decide +kernel
theorem dX4_beginNext_13 : decode cX4_beginNext 13 = .ok (.ifCond .gt 10, 3) := by decide +kernel
theorem dX4_beginNext_16 : decode cX4_beginNext 16 = .ok (.aload_n 2, 1) := by decide +kernel
theorem dX4_beginNext_17 : decode cX4_beginNext 17 = .ok (.bipush 8, 2) := by decide +kernel
theorem dX4_beginNext_19 : decode cX4_beginNext 19 = .ok (.putfield 75, 3) := by decide +kernel
theorem dX4_beginNext_22 : decode cX4_beginNext 22 = .ok (.return_, 1) := by decide +kernel
theorem dX4_beginNext_23 : decode cX4_beginNext 23 = .ok (.aload_n 0, 1) := by decide +kernel
theorem dX4_beginNext_24 : decode cX4_beginNext 24 = .ok (.dup, 1) := by decide +kernel
theorem dX4_beginNext_25 : decode cX4_beginNext 25 = .ok (.getfield 28, 3) := by decide +kernel
theorem dX4_beginNext_28 : decode cX4_beginNext 28 = .ok (.iconst 1, 1) := by decide +kernel
theorem dX4_beginNext_29 : decode cX4_beginNext 29 = .ok (.isub, 1) := by decide +kernel
theorem dX4_beginNext_30 : decode cX4_beginNext 30 = .ok (.putfield 28, 3) := by decide +kernel
theorem dX4_beginNext_33 : decode cX4_beginNext 33 = .ok (.aload_n 2, 1) := by decide +kernel
theorem dX4_beginNext_34 : decode cX4_beginNext 34 = .ok (.aload_n 3, 1) := by decide +kernel
theorem dX4_beginNext_35 : decode cX4_beginNext 35 = .ok (.putfield 80, 3) := by decide +kernel
theorem dX4_beginNext_38 : decode cX4_beginNext 38 = .ok (.aload_n 2, 1) := by decide +kernel
theorem dX4_beginNext_39 : decode cX4_beginNext 39 = .ok (.iconst 0, 1) := by decide +kernel
theorem dX4_beginNext_40 : decode cX4_beginNext 40 = .ok (.putfield 104, 3) := by decide +kernel
theorem dX4_beginNext_43 : decode cX4_beginNext 43 = .ok (.iconst 0, 1) := by decide +kernel
theorem dX4_beginNext_44 : decode cX4_beginNext 44 = .ok (.istore 4, 2) := by decide +kernel
theorem dX4_beginNext_46 : decode cX4_beginNext 46 = .ok (.iload 4, 2) := by decide +kernel
theorem dX4_beginNext_48 : decode cX4_beginNext 48 = .ok (.aload_n 3, 1) := by decide +kernel
theorem dX4_beginNext_49 : decode cX4_beginNext 49 = .ok (.getfield 97, 3) := by decide +kernel
theorem dX4_beginNext_52 : decode cX4_beginNext 52 = .ok (.if_icmp .ge 102, 3) := by decide +kernel
theorem dX4_beginNext_55 : decode cX4_beginNext 55 = .ok (.aload_n 3, 1) := by decide +kernel
theorem dX4_beginNext_56 : decode cX4_beginNext 56 = .ok (.getfield 108, 3) := by decide +kernel
theorem dX4_beginNext_59 : decode cX4_beginNext 59 = .ok (.iload 4, 2) := by decide +kernel
theorem dX4_beginNext_61 : decode cX4_beginNext 61 = .ok (.aaload, 1) := by decide +kernel
theorem dX4_beginNext_62 : decode cX4_beginNext 62 = .ok (.astore 5, 2) := by decide +kernel
theorem dX4_beginNext_64 : decode cX4_beginNext 64 = .ok (.iconst 0, 1) := by decide +kernel
theorem dX4_beginNext_65 : decode cX4_beginNext 65 = .ok (.istore 6, 2) := by decide +kernel
theorem dX4_beginNext_67 : decode cX4_beginNext 67 = .ok (.iload 6, 2) := by decide +kernel
theorem dX4_beginNext_69 : decode cX4_beginNext 69 = .ok (.aload 5, 2) := by decide +kernel
theorem dX4_beginNext_71 : decode cX4_beginNext 71 = .ok (.getfield 112, 3) := by decide +kernel
theorem dX4_beginNext_74 : decode cX4_beginNext 74 = .ok (.if_icmp .ge 34, 3) := by decide +kernel
theorem dX4_beginNext_77 : decode cX4_beginNext 77 = .ok (.aload_n 2, 1) := by decide +kernel
theorem dX4_beginNext_78 : decode cX4_beginNext 78 = .ok (.getfield 117, 3) := by decide +kernel
theorem dX4_beginNext_81 : decode cX4_beginNext 81 = .ok (.iload 4, 2) := by decide +kernel
theorem dX4_beginNext_83 : decode cX4_beginNext 83 = .ok (.iconst 4, 1) := by decide +kernel
theorem dX4_beginNext_84 : decode cX4_beginNext 84 = .ok (.imul, 1) := by decide +kernel
theorem dX4_beginNext_85 : decode cX4_beginNext 85 = .ok (.iload 6, 2) := by decide +kernel
theorem dX4_beginNext_87 : decode cX4_beginNext 87 = .ok (.iadd, 1) := by decide +kernel
theorem dX4_beginNext_88 : decode cX4_beginNext 88 = .ok (.aload_n 1, 1) := by decide +kernel
theorem dX4_beginNext_89 : decode cX4_beginNext 89 = .ok (.aload_n 2, 1) := by decide +kernel
theorem dX4_beginNext_90 : decode cX4_beginNext 90 = .ok (.aload 5, 2) := by decide +kernel
theorem dX4_beginNext_92 : decode cX4_beginNext 92 = .ok (.getfield 120, 3) := by decide +kernel
theorem dX4_beginNext_95 : decode cX4_beginNext 95 = .ok (.iload 6, 2) := by decide +kernel
theorem dX4_beginNext_97 : decode cX4_beginNext 97 = .ok (.iaload, 1) := by decide +kernel
theorem dX4_beginNext_98 : decode cX4_beginNext 98 = .ok (.invokestatic 123, 3) := by decide +kernel
theorem dX4_beginNext_101 : decode cX4_beginNext 101 = .ok (.iastore, 1) := by decide +kernel
theorem dX4_beginNext_102 : decode cX4_beginNext 102 = .ok (.iinc 6 1, 3) := by decide +kernel
theorem dX4_beginNext_105 : decode cX4_beginNext 105 = .ok (.goto (-38), 3) := by decide +kernel
theorem dX4_beginNext_108 : decode cX4_beginNext 108 = .ok (.aload_n 2, 1) := by decide +kernel
theorem dX4_beginNext_109 : decode cX4_beginNext 109 = .ok (.getfield 127, 3) := by decide +kernel
theorem dX4_beginNext_112 : decode cX4_beginNext 112 = .ok (.iload 4, 2) := by decide +kernel
theorem dX4_beginNext_114 : decode cX4_beginNext 114 = .ok (.iconst 0, 1) := by decide +kernel
theorem dX4_beginNext_115 : decode cX4_beginNext 115 = .ok (.iastore, 1) := by decide +kernel
theorem dX4_beginNext_116 : decode cX4_beginNext 116 = .ok (.aload_n 2, 1) := by decide +kernel
theorem dX4_beginNext_117 : decode cX4_beginNext 117 = .ok (.getfield 130, 3) := by decide +kernel
theorem dX4_beginNext_120 : decode cX4_beginNext 120 = .ok (.iload 4, 2) := by decide +kernel
theorem dX4_beginNext_122 : decode cX4_beginNext 122 = .ok (.iconst 0, 1) := by decide +kernel
theorem dX4_beginNext_123 : decode cX4_beginNext 123 = .ok (.bastore, 1) := by decide +kernel
theorem dX4_beginNext_124 : decode cX4_beginNext 124 = .ok (.aload_n 2, 1) := by decide +kernel
theorem dX4_beginNext_125 : decode cX4_beginNext 125 = .ok (.getfield 93, 3) := by decide +kernel
theorem dX4_beginNext_128 : decode cX4_beginNext 128 = .ok (.iload 4, 2) := by decide +kernel
theorem dX4_beginNext_130 : decode cX4_beginNext 130 = .ok (.aload 5, 2) := by decide +kernel
theorem dX4_beginNext_132 : decode cX4_beginNext 132 = .ok (.getfield 134, 3) := by decide +kernel
theorem dX4_beginNext_135 : decode cX4_beginNext 135 = .ok (.aload_n 2, 1) := by decide +kernel
theorem dX4_beginNext_136 : decode cX4_beginNext 136 = .ok (.getfield 117, 3) := by decide +kernel
theorem dX4_beginNext_139 : decode cX4_beginNext 139 = .ok (.iload 4, 2) := by decide +kernel
theorem dX4_beginNext_141 : decode cX4_beginNext 141 = .ok (.iconst 4, 1) := by decide +kernel
theorem dX4_beginNext_142 : decode cX4_beginNext 142 = .ok (.imul, 1) := by decide +kernel
theorem dX4_beginNext_143 : decode cX4_beginNext 143 = .ok (.iaload, 1) := by decide +kernel
theorem dX4_beginNext_144 : decode cX4_beginNext 144 = .ok (.invokestatic 138, 3) := by decide +kernel
theorem dX4_beginNext_147 : decode cX4_beginNext 147 = .ok (.iastore, 1) := by decide +kernel
theorem dX4_beginNext_148 : decode cX4_beginNext 148 = .ok (.iinc 4 1, 3) := by decide +kernel
theorem dX4_beginNext_151 : decode cX4_beginNext 151 = .ok (.goto (-105), 3) := by decide +kernel
theorem dX4_beginNext_154 : decode cX4_beginNext 154 = .ok (.return_, 1) := by decide +kernel
theorem dX4_worth_0 : decode cX4_worth 0 = .ok (.iload_n 2, 1) := by decide +kernel
theorem dX4_worth_1 : decode cX4_worth 1 = .ok (.ifCond .lt 5, 3) := by decide +kernel
theorem dX4_worth_4 : decode cX4_worth 4 = .ok (.iload_n 2, 1) := by decide +kernel
theorem dX4_worth_5 : decode cX4_worth 5 = .ok (.ireturn, 1) := by decide +kernel
theorem dX4_worth_6 : decode cX4_worth 6 = .ok (.iconst (-1), 1) := by decide +kernel
theorem dX4_worth_7 : decode cX4_worth 7 = .ok (.iload_n 2, 1) := by decide +kernel
theorem dX4_worth_8 : decode cX4_worth 8 = .ok (.isub, 1) := by decide +kernel
theorem dX4_worth_9 : decode cX4_worth 9 = .ok (.istore_n 3, 1) := by decide +kernel
theorem dX4_worth_10 : decode cX4_worth 10 = .ok (.iload_n 3, 1) := by decide +kernel
theorem dX4_worth_11 : decode cX4_worth 11 = .ok (.invokestatic 142, 3) := by decide +kernel
theorem dX4_worth_14 : decode cX4_worth 14 = .ok (.ifCond .eq 12, 3) := by decide +kernel
theorem dX4_worth_17 : decode cX4_worth 17 = .ok (.aload_n 0, 1) := by decide +kernel
theorem dX4_worth_18 : decode cX4_worth 18 = .ok (.getfield 146, 3) := by decide +kernel
theorem dX4_worth_21 : decode cX4_worth 21 = .ok (.iload_n 3, 1) := by decide +kernel
theorem dX4_worth_22 : decode cX4_worth 22 = .ok (.iaload, 1) := by decide +kernel
theorem dX4_worth_23 : decode cX4_worth 23 = .ok (.goto 7, 3) := by decide +kernel
theorem dX4_worth_26 : decode cX4_worth 26 = .ok (.aload_n 1, 1) := by decide +kernel
theorem dX4_worth_27 : decode cX4_worth 27 = .ok (.getfield 149, 3) := by decide +kernel
theorem dX4_worth_30 : decode cX4_worth 30 = .ok (.ireturn, 1) := by decide +kernel
theorem dX4_statusAtFirst_0 : decode cX4_statusAtFirst 0 = .ok (.getstatic 152, 3) := by decide +kernel
theorem dX4_statusAtFirst_3 : decode cX4_statusAtFirst 3 = .ok (.aload_n 0, 1) := by decide +kernel
theorem dX4_statusAtFirst_4 : decode cX4_statusAtFirst 4 = .ok (.invokevirtual 157, 3) := by decide +kernel
theorem dX4_statusAtFirst_7 : decode cX4_statusAtFirst 7 = .ok (.iaload, 1) := by decide +kernel
theorem dX4_statusAtFirst_8 : decode cX4_statusAtFirst 8 = .ok (.tableswitch 42 1 3 #[28, 30, 40], 28) := by decide +kernel
theorem dX4_statusAtFirst_36 : decode cX4_statusAtFirst 36 = .ok (.iload_n 1, 1) := by decide +kernel
theorem dX4_statusAtFirst_37 : decode cX4_statusAtFirst 37 = .ok (.ireturn, 1) := by decide +kernel
theorem dX4_statusAtFirst_38 : decode cX4_statusAtFirst 38 = .ok (.iload_n 1, 1) := by decide +kernel
theorem dX4_statusAtFirst_39 : decode cX4_statusAtFirst 39 = .ok (.ifCond .ne 7, 3) := by decide +kernel
theorem dX4_statusAtFirst_42 : decode cX4_statusAtFirst 42 = .ok (.iconst 2, 1) := by decide +kernel
theorem dX4_statusAtFirst_43 : decode cX4_statusAtFirst 43 = .ok (.goto 4, 3) := by decide +kernel
theorem dX4_statusAtFirst_46 : decode cX4_statusAtFirst 46 = .ok (.iconst 0, 1) := by decide +kernel
theorem dX4_statusAtFirst_47 : decode cX4_statusAtFirst 47 = .ok (.ireturn, 1) := by decide +kernel
theorem dX4_statusAtFirst_48 : decode cX4_statusAtFirst 48 = .ok (.iconst 1, 1) := by decide +kernel
theorem dX4_statusAtFirst_49 : decode cX4_statusAtFirst 49 = .ok (.ireturn, 1) := by decide +kernel
theorem dX4_statusAtFirst_50 : decode cX4_statusAtFirst 50 = .ok (.iconst 0, 1) := by decide +kernel
theorem dX4_statusAtFirst_51 : decode cX4_statusAtFirst 51 = .ok (.ireturn, 1) := by decide +kernel
theorem dX4_nextOf_0 : decode cX4_nextOf 0 = .ok (.aload_n 2, 1) := by decide +kernel
theorem dX4_nextOf_1 : decode cX4_nextOf 1 = .ok (.getfield 80, 3) := by decide +kernel
theorem dX4_nextOf_4 : decode cX4_nextOf 4 = .ok (.getfield 97, 3) := by decide +kernel
theorem dX4_nextOf_7 : decode cX4_nextOf 7 = .ok (.iconst 1, 1) := by decide +kernel
theorem dX4_nextOf_8 : decode cX4_nextOf 8 = .ok (.isub, 1) := by decide +kernel
theorem dX4_nextOf_9 : decode cX4_nextOf 9 = .ok (.istore 4, 2) := by decide +kernel
theorem dX4_nextOf_11 : decode cX4_nextOf 11 = .ok (.iload 4, 2) := by decide +kernel
theorem dX4_nextOf_13 : decode cX4_nextOf 13 = .ok (.istore 5, 2) := by decide +kernel
theorem dX4_nextOf_15 : decode cX4_nextOf 15 = .ok (.aload_n 0, 1) := by decide +kernel
theorem dX4_nextOf_16 : decode cX4_nextOf 16 = .ok (.aload_n 1, 1) := by decide +kernel
theorem dX4_nextOf_17 : decode cX4_nextOf 17 = .ok (.aload_n 2, 1) := by decide +kernel
theorem dX4_nextOf_18 : decode cX4_nextOf 18 = .ok (.iload 5, 2) := by decide +kernel
theorem dX4_nextOf_20 : decode cX4_nextOf 20 = .ok (.iload_n 3, 1) := by decide +kernel
theorem dX4_nextOf_21 : decode cX4_nextOf 21 = .ok (.invokevirtual 163, 3) := by decide +kernel
theorem dX4_nextOf_24 : decode cX4_nextOf 24 = .ok (.lstore 6, 2) := by decide +kernel
theorem dX4_nextOf_26 : decode cX4_nextOf 26 = .ok (.iconst 0, 1) := by decide +kernel
theorem dX4_nextOf_27 : decode cX4_nextOf 27 = .ok (.istore 8, 2) := by decide +kernel
theorem dX4_nextOf_29 : decode cX4_nextOf 29 = .ok (.iload 8, 2) := by decide +kernel
theorem dX4_nextOf_31 : decode cX4_nextOf 31 = .ok (.ldc 68, 2) := by decide +kernel
theorem dX4_nextOf_33 : decode cX4_nextOf 33 = .ok (.if_icmp .ge 71, 3) := by decide +kernel
theorem dX4_nextOf_36 : decode cX4_nextOf 36 = .ok (.lload 6, 2) := by decide +kernel
theorem dX4_nextOf_38 : decode cX4_nextOf 38 = .ok (.ldc2_w 167, 3) := by decide +kernel
theorem dX4_nextOf_41 : decode cX4_nextOf 41 = .ok (.lcmp, 1) := by decide +kernel
theorem dX4_nextOf_42 : decode cX4_nextOf 42 = .ok (.ifCond .ne 31, 3) := by decide +kernel
theorem dX4_nextOf_45 : decode cX4_nextOf 45 = .ok (.iinc 5 (-1), 3) := by decide +kernel
theorem dX4_nextOf_48 : decode cX4_nextOf 48 = .ok (.iload 5, 2) := by decide +kernel
theorem dX4_nextOf_50 : decode cX4_nextOf 50 = .ok (.ifCond .ge 9, 3) := by decide +kernel
theorem dX4_nextOf_53 : decode cX4_nextOf 53 = .ok (.ldc2_w 73, 3) := by decide +kernel
theorem dX4_nextOf_56 : decode cX4_nextOf 56 = .ok (.goto 12, 3) := by decide +kernel
theorem dX4_nextOf_59 : decode cX4_nextOf 59 = .ok (.aload_n 0, 1) := by decide +kernel
theorem dX4_nextOf_60 : decode cX4_nextOf 60 = .ok (.aload_n 1, 1) := by decide +kernel
theorem dX4_nextOf_61 : decode cX4_nextOf 61 = .ok (.aload_n 2, 1) := by decide +kernel
theorem dX4_nextOf_62 : decode cX4_nextOf 62 = .ok (.iload 5, 2) := by decide +kernel
theorem dX4_nextOf_64 : decode cX4_nextOf 64 = .ok (.iload_n 3, 1) := by decide +kernel
theorem dX4_nextOf_65 : decode cX4_nextOf 65 = .ok (.invokevirtual 163, 3) := by decide +kernel
theorem dX4_nextOf_68 : decode cX4_nextOf 68 = .ok (.lstore 6, 2) := by decide +kernel
theorem dX4_nextOf_70 : decode cX4_nextOf 70 = .ok (.goto 28, 3) := by decide +kernel
theorem dX4_nextOf_73 : decode cX4_nextOf 73 = .ok (.iload 5, 2) := by decide +kernel
theorem dX4_nextOf_75 : decode cX4_nextOf 75 = .ok (.iload 4, 2) := by decide +kernel
theorem dX4_nextOf_77 : decode cX4_nextOf 77 = .ok (.if_icmp .ne 6, 3) := by decide +kernel
theorem dX4_nextOf_80 : decode cX4_nextOf 80 = .ok (.lload 6, 2) := by decide +kernel
theorem dX4_nextOf_82 : decode cX4_nextOf 82 = .ok (.lreturn, 1) := by decide +kernel
theorem dX4_nextOf_83 : decode cX4_nextOf 83 = .ok (.iinc 5 1, 3) := by decide +kernel
theorem dX4_nextOf_86 : decode cX4_nextOf 86 = .ok (.aload_n 0, 1) := by decide +kernel
theorem dX4_nextOf_87 : decode cX4_nextOf 87 = .ok (.aload_n 1, 1) := by decide +kernel
theorem dX4_nextOf_88 : decode cX4_nextOf 88 = .ok (.aload_n 2, 1) := by decide +kernel
theorem dX4_nextOf_89 : decode cX4_nextOf 89 = .ok (.iload 5, 2) := by decide +kernel
theorem dX4_nextOf_91 : decode cX4_nextOf 91 = .ok (.lload 6, 2) := by decide +kernel
theorem dX4_nextOf_93 : decode cX4_nextOf 93 = .ok (.invokevirtual 169, 3) := by decide +kernel
theorem dX4_nextOf_96 : decode cX4_nextOf 96 = .ok (.lstore 6, 2) := by decide +kernel
theorem dX4_nextOf_98 : decode cX4_nextOf 98 = .ok (.iinc 8 1, 3) := by decide +kernel
theorem dX4_nextOf_101 : decode cX4_nextOf 101 = .ok (.goto (-72), 3) := by decide +kernel
theorem dX4_nextOf_104 : decode cX4_nextOf 104 = .ok (.ldc2_w 73, 3) := by decide +kernel
theorem dX4_nextOf_107 : decode cX4_nextOf 107 = .ok (.lreturn, 1) := by decide +kernel
theorem dX4_asked_0 : decode cX4_asked 0 = .ok (.aload_n 2, 1) := by decide +kernel
theorem dX4_asked_1 : decode cX4_asked 1 = .ok (.getfield 130, 3) := by decide +kernel
theorem dX4_asked_4 : decode cX4_asked 4 = .ok (.iload_n 3, 1) := by decide +kernel
theorem dX4_asked_5 : decode cX4_asked 5 = .ok (.baload, 1) := by decide +kernel
theorem dX4_asked_6 : decode cX4_asked 6 = .ok (.ifCond .eq 7, 3) := by decide +kernel
theorem dX4_asked_9 : decode cX4_asked 9 = .ok (.ldc2_w 73, 3) := by decide +kernel
theorem dX4_asked_12 : decode cX4_asked 12 = .ok (.lreturn, 1) := by decide +kernel
theorem dX4_asked_13 : decode cX4_asked 13 = .ok (.aload_n 2, 1) := by decide +kernel
theorem dX4_asked_14 : decode cX4_asked 14 = .ok (.getfield 80, 3) := by decide +kernel
theorem dX4_asked_17 : decode cX4_asked 17 = .ok (.getfield 108, 3) := by decide +kernel
theorem dX4_asked_20 : decode cX4_asked 20 = .ok (.iload_n 3, 1) := by decide +kernel
theorem dX4_asked_21 : decode cX4_asked 21 = .ok (.aaload, 1) := by decide +kernel
theorem dX4_asked_22 : decode cX4_asked 22 = .ok (.astore 5, 2) := by decide +kernel
theorem dX4_asked_24 : decode cX4_asked 24 = .ok (.aload 5, 2) := by decide +kernel
theorem dX4_asked_26 : decode cX4_asked 26 = .ok (.invokevirtual 173, 3) := by decide +kernel
theorem dX4_asked_29 : decode cX4_asked 29 = .ok (.ifCond .eq 40, 3) := by decide +kernel
theorem dX4_asked_32 : decode cX4_asked 32 = .ok (.aload_n 2, 1) := by decide +kernel
theorem dX4_asked_33 : decode cX4_asked 33 = .ok (.getfield 104, 3) := by decide +kernel
theorem dX4_asked_36 : decode cX4_asked 36 = .ok (.ifCond .ne 33, 3) := by decide +kernel
theorem dX4_asked_39 : decode cX4_asked 39 = .ok (.aload_n 2, 1) := by decide +kernel
theorem dX4_asked_40 : decode cX4_asked 40 = .ok (.iconst 1, 1) := by decide +kernel
theorem dX4_asked_41 : decode cX4_asked 41 = .ok (.putfield 104, 3) := by decide +kernel
theorem dX4_asked_44 : decode cX4_asked 44 = .ok (.aload_n 2, 1) := by decide +kernel
theorem dX4_asked_45 : decode cX4_asked 45 = .ok (.getfield 177, 3) := by decide +kernel
theorem dX4_asked_48 : decode cX4_asked 48 = .ok (.iconst 0, 1) := by decide +kernel
theorem dX4_asked_49 : decode cX4_asked 49 = .ok (.putfield 40, 3) := by decide +kernel
theorem dX4_asked_52 : decode cX4_asked 52 = .ok (.aload_n 2, 1) := by decide +kernel
theorem dX4_asked_53 : decode cX4_asked 53 = .ok (.getfield 93, 3) := by decide +kernel
theorem dX4_asked_56 : decode cX4_asked 56 = .ok (.iload_n 3, 1) := by decide +kernel
theorem dX4_asked_57 : decode cX4_asked 57 = .ok (.aload_n 0, 1) := by decide +kernel
theorem dX4_asked_58 : decode cX4_asked 58 = .ok (.aload_n 1, 1) := by decide +kernel
theorem dX4_asked_59 : decode cX4_asked 59 = .ok (.aload_n 2, 1) := by decide +kernel
theorem dX4_asked_60 : decode cX4_asked 60 = .ok (.iload_n 3, 1) := by decide +kernel
theorem dX4_asked_61 : decode cX4_asked 61 = .ok (.iload 4, 2) := by decide +kernel
theorem dX4_asked_63 : decode cX4_asked 63 = .ok (.iconst 1, 1) := by decide +kernel
theorem dX4_asked_64 : decode cX4_asked 64 = .ok (.iadd, 1) := by decide +kernel
theorem dX4_asked_65 : decode cX4_asked 65 = .ok (.invokevirtual 180, 3) := by decide +kernel
theorem dX4_asked_68 : decode cX4_asked 68 = .ok (.iastore, 1) := by decide +kernel
theorem dX4_asked_69 : decode cX4_asked 69 = .ok (.aload_n 2, 1) := by decide +kernel
theorem dX4_asked_70 : decode cX4_asked 70 = .ok (.getfield 127, 3) := by decide +kernel
theorem dX4_asked_73 : decode cX4_asked 73 = .ok (.iload_n 3, 1) := by decide +kernel
theorem dX4_asked_74 : decode cX4_asked 74 = .ok (.iaload, 1) := by decide +kernel
theorem dX4_asked_75 : decode cX4_asked 75 = .ok (.istore 6, 2) := by decide +kernel
theorem dX4_asked_77 : decode cX4_asked 77 = .ok (.aload_n 2, 1) := by decide +kernel
theorem dX4_asked_78 : decode cX4_asked 78 = .ok (.getfield 117, 3) := by decide +kernel
theorem dX4_asked_81 : decode cX4_asked 81 = .ok (.iload_n 3, 1) := by decide +kernel
theorem dX4_asked_82 : decode cX4_asked 82 = .ok (.iconst 4, 1) := by decide +kernel
theorem dX4_asked_83 : decode cX4_asked 83 = .ok (.imul, 1) := by decide +kernel
theorem dX4_asked_84 : decode cX4_asked 84 = .ok (.iaload, 1) := by decide +kernel
theorem dX4_asked_85 : decode cX4_asked 85 = .ok (.istore 7, 2) := by decide +kernel
theorem dX4_asked_87 : decode cX4_asked 87 = .ok (.getstatic 152, 3) := by decide +kernel
theorem dX4_asked_90 : decode cX4_asked 90 = .ok (.aload 5, 2) := by decide +kernel
theorem dX4_asked_92 : decode cX4_asked 92 = .ok (.getfield 134, 3) := by decide +kernel
theorem dX4_asked_95 : decode cX4_asked 95 = .ok (.invokevirtual 157, 3) := by decide +kernel
theorem dX4_asked_98 : decode cX4_asked 98 = .ok (.iaload, 1) := by decide +kernel
theorem dX4_asked_99 : decode cX4_asked 99 = .ok (.tableswitch 201 1 11 #[159, 165, 201, 57, 93, 124, 124, 124, 124, 159, 182], 57) := by decide +kernel
theorem dX4_asked_156 : decode cX4_asked 156 = .ok (.iload 6, 2) := by decide +kernel
theorem dX4_asked_158 : decode cX4_asked 158 = .ok (.aload 5, 2) := by decide +kernel
theorem dX4_asked_160 : decode cX4_asked 160 = .ok (.getfield 112, 3) := by decide +kernel
theorem dX4_asked_163 : decode cX4_asked 163 = .ok (.if_icmp .ge 23, 3) := by decide +kernel
theorem dX4_asked_166 : decode cX4_asked 166 = .ok (.aload_n 2, 1) := by decide +kernel
theorem dX4_asked_167 : decode cX4_asked 167 = .ok (.iload_n 3, 1) := by decide +kernel
theorem dX4_asked_168 : decode cX4_asked 168 = .ok (.aload_n 2, 1) := by decide +kernel
theorem dX4_asked_169 : decode cX4_asked 169 = .ok (.getfield 117, 3) := by decide +kernel
theorem dX4_asked_172 : decode cX4_asked 172 = .ok (.iload_n 3, 1) := by decide +kernel
theorem dX4_asked_173 : decode cX4_asked 173 = .ok (.iconst 4, 1) := by decide +kernel
theorem dX4_asked_174 : decode cX4_asked 174 = .ok (.imul, 1) := by decide +kernel
theorem dX4_asked_175 : decode cX4_asked 175 = .ok (.iload 6, 2) := by decide +kernel
theorem dX4_asked_177 : decode cX4_asked 177 = .ok (.iadd, 1) := by decide +kernel
theorem dX4_asked_178 : decode cX4_asked 178 = .ok (.iaload, 1) := by decide +kernel
theorem dX4_asked_179 : decode cX4_asked 179 = .ok (.i2l, 1) := by decide +kernel
theorem dX4_asked_180 : decode cX4_asked 180 = .ok (.invokestatic 184, 3) := by decide +kernel
theorem dX4_asked_183 : decode cX4_asked 183 = .ok (.goto 8, 3) := by decide +kernel
theorem dX4_asked_186 : decode cX4_asked 186 = .ok (.aload_n 2, 1) := by decide +kernel
theorem dX4_asked_187 : decode cX4_asked 187 = .ok (.iload_n 3, 1) := by decide +kernel
theorem dX4_asked_188 : decode cX4_asked 188 = .ok (.invokestatic 188, 3) := by decide +kernel
theorem dX4_asked_191 : decode cX4_asked 191 = .ok (.lreturn, 1) := by decide +kernel
theorem dX4_asked_192 : decode cX4_asked 192 = .ok (.iload 6, 2) := by decide +kernel
theorem dX4_asked_194 : decode cX4_asked 194 = .ok (.iload 7, 2) := by decide +kernel
theorem dX4_asked_196 : decode cX4_asked 196 = .ok (.bipush 99, 2) := by decide +kernel
theorem dX4_asked_198 : decode cX4_asked 198 = .ok (.invokestatic 192, 3) := by decide +kernel
theorem dX4_asked_201 : decode cX4_asked 201 = .ok (.if_icmp .ge 16, 3) := by decide +kernel
theorem dX4_asked_204 : decode cX4_asked 204 = .ok (.aload_n 2, 1) := by decide +kernel
theorem dX4_asked_205 : decode cX4_asked 205 = .ok (.iload_n 3, 1) := by decide +kernel
theorem dX4_asked_206 : decode cX4_asked 206 = .ok (.iload 6, 2) := by decide +kernel
theorem dX4_asked_208 : decode cX4_asked 208 = .ok (.iconst 1, 1) := by decide +kernel
theorem dX4_asked_209 : decode cX4_asked 209 = .ok (.iadd, 1) := by decide +kernel
theorem dX4_asked_210 : decode cX4_asked 210 = .ok (.i2l, 1) := by decide +kernel
theorem dX4_asked_211 : decode cX4_asked 211 = .ok (.invokestatic 184, 3) := by decide +kernel
theorem dX4_asked_214 : decode cX4_asked 214 = .ok (.goto 8, 3) := by decide +kernel
theorem dX4_asked_217 : decode cX4_asked 217 = .ok (.aload_n 2, 1) := by decide +kernel
theorem dX4_asked_218 : decode cX4_asked 218 = .ok (.iload_n 3, 1) := by decide +kernel
theorem dX4_asked_219 : decode cX4_asked 219 = .ok (.invokestatic 188, 3) := by decide +kernel
theorem dX4_asked_222 : decode cX4_asked 222 = .ok (.lreturn, 1) := by decide +kernel
theorem dX4_asked_223 : decode cX4_asked 223 = .ok (.iload 6, 2) := by decide +kernel
theorem dX4_asked_225 : decode cX4_asked 225 = .ok (.aload_n 2, 1) := by decide +kernel
theorem dX4_asked_226 : decode cX4_asked 226 = .ok (.getfield 177, 3) := by decide +kernel
theorem dX4_asked_229 : decode cX4_asked 229 = .ok (.getfield 40, 3) := by decide +kernel
theorem dX4_asked_232 : decode cX4_asked 232 = .ok (.if_icmp .ge 20, 3) := by decide +kernel
theorem dX4_asked_235 : decode cX4_asked 235 = .ok (.aload_n 2, 1) := by decide +kernel
theorem dX4_asked_236 : decode cX4_asked 236 = .ok (.iload_n 3, 1) := by decide +kernel
theorem dX4_asked_237 : decode cX4_asked 237 = .ok (.aload_n 2, 1) := by decide +kernel
theorem dX4_asked_238 : decode cX4_asked 238 = .ok (.getfield 177, 3) := by decide +kernel
theorem dX4_asked_241 : decode cX4_asked 241 = .ok (.iload 6, 2) := by decide +kernel
theorem dX4_asked_243 : decode cX4_asked 243 = .ok (.invokevirtual 198, 3) := by decide +kernel
theorem dX4_asked_246 : decode cX4_asked 246 = .ok (.invokestatic 184, 3) := by decide +kernel
theorem dX4_asked_249 : decode cX4_asked 249 = .ok (.goto 8, 3) := by decide +kernel
theorem dX4_asked_252 : decode cX4_asked 252 = .ok (.aload_n 2, 1) := by decide +kernel
theorem dX4_asked_253 : decode cX4_asked 253 = .ok (.iload_n 3, 1) := by decide +kernel
theorem dX4_asked_254 : decode cX4_asked 254 = .ok (.invokestatic 188, 3) := by decide +kernel
theorem dX4_asked_257 : decode cX4_asked 257 = .ok (.lreturn, 1) := by decide +kernel
theorem dX4_asked_258 : decode cX4_asked 258 = .ok (.aload_n 2, 1) := by decide +kernel
theorem dX4_asked_259 : decode cX4_asked 259 = .ok (.iload_n 3, 1) := by decide +kernel
theorem dX4_asked_260 : decode cX4_asked 260 = .ok (.invokestatic 188, 3) := by decide +kernel
theorem dX4_asked_263 : decode cX4_asked 263 = .ok (.lreturn, 1) := by decide +kernel
theorem dX4_asked_264 : decode cX4_asked 264 = .ok (.iload 7, 2) := by decide +kernel
theorem dX4_asked_266 : decode cX4_asked 266 = .ok (.ifCond .ne 11, 3) := by decide +kernel
theorem dX4_asked_269 : decode cX4_asked 269 = .ok (.aload_n 2, 1) := by decide +kernel
theorem dX4_asked_270 : decode cX4_asked 270 = .ok (.iload_n 3, 1) := by decide +kernel
theorem dX4_asked_271 : decode cX4_asked 271 = .ok (.invokestatic 188, 3) := by decide +kernel
theorem dX4_asked_274 : decode cX4_asked 274 = .ok (.goto 6, 3) := by decide +kernel
theorem dX4_asked_277 : decode cX4_asked 277 = .ok (.ldc2_w 167, 3) := by decide +kernel
theorem dX4_asked_280 : decode cX4_asked 280 = .ok (.lreturn, 1) := by decide +kernel
theorem dX4_asked_281 : decode cX4_asked 281 = .ok (.iload 6, 2) := by decide +kernel
theorem dX4_asked_283 : decode cX4_asked 283 = .ok (.iload 7, 2) := by decide +kernel
theorem dX4_asked_285 : decode cX4_asked 285 = .ok (.if_icmp .ge 9, 3) := by decide +kernel
theorem dX4_asked_288 : decode cX4_asked 288 = .ok (.ldc2_w 167, 3) := by decide +kernel
theorem dX4_asked_291 : decode cX4_asked 291 = .ok (.goto 8, 3) := by decide +kernel
theorem dX4_asked_294 : decode cX4_asked 294 = .ok (.aload_n 2, 1) := by decide +kernel
theorem dX4_asked_295 : decode cX4_asked 295 = .ok (.iload_n 3, 1) := by decide +kernel
theorem dX4_asked_296 : decode cX4_asked 296 = .ok (.invokestatic 188, 3) := by decide +kernel
theorem dX4_asked_299 : decode cX4_asked 299 = .ok (.lreturn, 1) := by decide +kernel
theorem dX4_asked_300 : decode cX4_asked 300 = .ok (.ldc2_w 167, 3) := by decide +kernel
theorem dX4_asked_303 : decode cX4_asked 303 = .ok (.lreturn, 1) := by decide +kernel
theorem dX4_got_0 : decode cX4_got 0 = .ok (.lload 4, 2) := by decide +kernel
theorem dX4_got_2 : decode cX4_got 2 = .ok (.ldc2_w 73, 3) := by decide +kernel
theorem dX4_got_5 : decode cX4_got 5 = .ok (.lcmp, 1) := by decide +kernel
theorem dX4_got_6 : decode cX4_got 6 = .ok (.ifCond .ne 10, 3) := by decide +kernel
theorem dX4_got_9 : decode cX4_got 9 = .ok (.aload_n 1, 1) := by decide +kernel
theorem dX4_got_10 : decode cX4_got 10 = .ok (.aload_n 2, 1) := by decide +kernel
theorem dX4_got_11 : decode cX4_got 11 = .ok (.iload_n 3, 1) := by decide +kernel
theorem dX4_got_12 : decode cX4_got 12 = .ok (.invokestatic 202, 3) := by decide +kernel
theorem dX4_got_15 : decode cX4_got 15 = .ok (.lreturn, 1) := by decide +kernel
theorem dX4_got_16 : decode cX4_got 16 = .ok (.aload_n 0, 1) := by decide +kernel
theorem dX4_got_17 : decode cX4_got 17 = .ok (.dup, 1) := by decide +kernel
theorem dX4_got_18 : decode cX4_got 18 = .ok (.getfield 31, 3) := by decide +kernel
theorem dX4_got_21 : decode cX4_got 21 = .ok (.iconst 1, 1) := by decide +kernel
theorem dX4_got_22 : decode cX4_got 22 = .ok (.iadd, 1) := by decide +kernel
theorem dX4_got_23 : decode cX4_got 23 = .ok (.putfield 31, 3) := by decide +kernel
theorem dX4_got_26 : decode cX4_got 26 = .ok (.lload 4, 2) := by decide +kernel
theorem dX4_got_28 : decode cX4_got 28 = .ok (.l2i, 1) := by decide +kernel
theorem dX4_got_29 : decode cX4_got 29 = .ok (.istore 6, 2) := by decide +kernel
theorem dX4_got_31 : decode cX4_got 31 = .ok (.aload_n 2, 1) := by decide +kernel
theorem dX4_got_32 : decode cX4_got 32 = .ok (.getfield 117, 3) := by decide +kernel
theorem dX4_got_35 : decode cX4_got 35 = .ok (.iload_n 3, 1) := by decide +kernel
theorem dX4_got_36 : decode cX4_got 36 = .ok (.iconst 4, 1) := by decide +kernel
theorem dX4_got_37 : decode cX4_got 37 = .ok (.imul, 1) := by decide +kernel
theorem dX4_got_38 : decode cX4_got 38 = .ok (.iaload, 1) := by decide +kernel
theorem dX4_got_39 : decode cX4_got 39 = .ok (.istore 7, 2) := by decide +kernel
theorem dX4_got_41 : decode cX4_got 41 = .ok (.getstatic 152, 3) := by decide +kernel
theorem dX4_got_44 : decode cX4_got 44 = .ok (.aload_n 2, 1) := by decide +kernel
theorem dX4_got_45 : decode cX4_got 45 = .ok (.getfield 80, 3) := by decide +kernel
theorem dX4_got_48 : decode cX4_got 48 = .ok (.getfield 108, 3) := by decide +kernel
theorem dX4_got_51 : decode cX4_got 51 = .ok (.iload_n 3, 1) := by decide +kernel
theorem dX4_got_52 : decode cX4_got 52 = .ok (.aaload, 1) := by decide +kernel
theorem dX4_got_53 : decode cX4_got 53 = .ok (.getfield 134, 3) := by decide +kernel
theorem dX4_got_56 : decode cX4_got 56 = .ok (.invokevirtual 157, 3) := by decide +kernel
theorem dX4_got_59 : decode cX4_got 59 = .ok (.iaload, 1) := by decide +kernel
theorem dX4_got_60 : decode cX4_got 60 = .ok (.tableswitch 180 2 15 #[86, 161, 180, 180, 180, 180, 180, 180, 180, 137, 72, 79, 106, 146], 72) := by decide +kernel
theorem dX4_got_132 : decode cX4_got 132 = .ok (.iload 6, 2) := by decide +kernel
theorem dX4_got_134 : decode cX4_got 134 = .ok (.iload 7, 2) := by decide +kernel
theorem dX4_got_136 : decode cX4_got 136 = .ok (.iadd, 1) := by decide +kernel
theorem dX4_got_137 : decode cX4_got 137 = .ok (.i2l, 1) := by decide +kernel
theorem dX4_got_138 : decode cX4_got 138 = .ok (.lreturn, 1) := by decide +kernel
theorem dX4_got_139 : decode cX4_got 139 = .ok (.iload 6, 2) := by decide +kernel
theorem dX4_got_141 : decode cX4_got 141 = .ok (.iload 7, 2) := by decide +kernel
theorem dX4_got_143 : decode cX4_got 143 = .ok (.imul, 1) := by decide +kernel
theorem dX4_got_144 : decode cX4_got 144 = .ok (.i2l, 1) := by decide +kernel
theorem dX4_got_145 : decode cX4_got 145 = .ok (.lreturn, 1) := by decide +kernel
theorem dX4_got_146 : decode cX4_got 146 = .ok (.iload 7, 2) := by decide +kernel
theorem dX4_got_148 : decode cX4_got 148 = .ok (.ifCond .ne 11, 3) := by decide +kernel
theorem dX4_got_151 : decode cX4_got 151 = .ok (.aload_n 2, 1) := by decide +kernel
theorem dX4_got_152 : decode cX4_got 152 = .ok (.iload_n 3, 1) := by decide +kernel
theorem dX4_got_153 : decode cX4_got 153 = .ok (.invokestatic 188, 3) := by decide +kernel
theorem dX4_got_156 : decode cX4_got 156 = .ok (.goto 9, 3) := by decide +kernel
theorem dX4_got_159 : decode cX4_got 159 = .ok (.iload 6, 2) := by decide +kernel
theorem dX4_got_161 : decode cX4_got 161 = .ok (.iload 7, 2) := by decide +kernel
theorem dX4_got_163 : decode cX4_got 163 = .ok (.irem, 1) := by decide +kernel
theorem dX4_got_164 : decode cX4_got 164 = .ok (.i2l, 1) := by decide +kernel
theorem dX4_got_165 : decode cX4_got 165 = .ok (.lreturn, 1) := by decide +kernel
theorem dX4_got_166 : decode cX4_got 166 = .ok (.iload 7, 2) := by decide +kernel
theorem dX4_got_168 : decode cX4_got 168 = .ok (.ifCond .ne 11, 3) := by decide +kernel
theorem dX4_got_171 : decode cX4_got 171 = .ok (.iload 6, 2) := by decide +kernel
theorem dX4_got_173 : decode cX4_got 173 = .ok (.ifCond .ne 20, 3) := by decide +kernel
theorem dX4_got_176 : decode cX4_got 176 = .ok (.goto 11, 3) := by decide +kernel
theorem dX4_got_179 : decode cX4_got 179 = .ok (.iload 6, 2) := by decide +kernel
theorem dX4_got_181 : decode cX4_got 181 = .ok (.iload 7, 2) := by decide +kernel
theorem dX4_got_183 : decode cX4_got 183 = .ok (.irem, 1) := by decide +kernel
theorem dX4_got_184 : decode cX4_got 184 = .ok (.ifCond .ne 9, 3) := by decide +kernel
theorem dX4_got_187 : decode cX4_got 187 = .ok (.iload 6, 2) := by decide +kernel
theorem dX4_got_189 : decode cX4_got 189 = .ok (.i2l, 1) := by decide +kernel
theorem dX4_got_190 : decode cX4_got 190 = .ok (.goto 6, 3) := by decide +kernel
theorem dX4_got_193 : decode cX4_got 193 = .ok (.ldc2_w 167, 3) := by decide +kernel
theorem dX4_got_196 : decode cX4_got 196 = .ok (.lreturn, 1) := by decide +kernel
theorem dX4_got_197 : decode cX4_got 197 = .ok (.aload_n 2, 1) := by decide +kernel
theorem dX4_got_198 : decode cX4_got 198 = .ok (.iload_n 3, 1) := by decide +kernel
theorem dX4_got_199 : decode cX4_got 199 = .ok (.iload 6, 2) := by decide +kernel
theorem dX4_got_201 : decode cX4_got 201 = .ok (.i2l, 1) := by decide +kernel
theorem dX4_got_202 : decode cX4_got 202 = .ok (.invokestatic 184, 3) := by decide +kernel
theorem dX4_got_205 : decode cX4_got 205 = .ok (.lreturn, 1) := by decide +kernel
theorem dX4_got_206 : decode cX4_got 206 = .ok (.aload_n 2, 1) := by decide +kernel
theorem dX4_got_207 : decode cX4_got 207 = .ok (.getfield 127, 3) := by decide +kernel
theorem dX4_got_210 : decode cX4_got 210 = .ok (.iload_n 3, 1) := by decide +kernel
theorem dX4_got_211 : decode cX4_got 211 = .ok (.dup2, 1) := by decide +kernel
theorem dX4_got_212 : decode cX4_got 212 = .ok (.iaload, 1) := by decide +kernel
theorem dX4_got_213 : decode cX4_got 213 = .ok (.iload 6, 2) := by decide +kernel
theorem dX4_got_215 : decode cX4_got 215 = .ok (.iadd, 1) := by decide +kernel
theorem dX4_got_216 : decode cX4_got 216 = .ok (.iastore, 1) := by decide +kernel
theorem dX4_got_217 : decode cX4_got 217 = .ok (.ldc2_w 167, 3) := by decide +kernel
theorem dX4_got_220 : decode cX4_got 220 = .ok (.lreturn, 1) := by decide +kernel
theorem dX4_got_221 : decode cX4_got 221 = .ok (.aload_n 2, 1) := by decide +kernel
theorem dX4_got_222 : decode cX4_got 222 = .ok (.getfield 127, 3) := by decide +kernel
theorem dX4_got_225 : decode cX4_got 225 = .ok (.iload_n 3, 1) := by decide +kernel
theorem dX4_got_226 : decode cX4_got 226 = .ok (.iload 6, 2) := by decide +kernel
theorem dX4_got_228 : decode cX4_got 228 = .ok (.iastore, 1) := by decide +kernel
theorem dX4_got_229 : decode cX4_got 229 = .ok (.aload_n 2, 1) := by decide +kernel
theorem dX4_got_230 : decode cX4_got 230 = .ok (.getfield 93, 3) := by decide +kernel
theorem dX4_got_233 : decode cX4_got 233 = .ok (.iload_n 3, 1) := by decide +kernel
theorem dX4_got_234 : decode cX4_got 234 = .ok (.iconst 0, 1) := by decide +kernel
theorem dX4_got_235 : decode cX4_got 235 = .ok (.iastore, 1) := by decide +kernel
theorem dX4_got_236 : decode cX4_got 236 = .ok (.ldc2_w 167, 3) := by decide +kernel
theorem dX4_got_239 : decode cX4_got 239 = .ok (.lreturn, 1) := by decide +kernel
theorem dX4_got_240 : decode cX4_got 240 = .ok (.aload_n 2, 1) := by decide +kernel
theorem dX4_got_241 : decode cX4_got 241 = .ok (.iload_n 3, 1) := by decide +kernel
theorem dX4_got_242 : decode cX4_got 242 = .ok (.invokestatic 188, 3) := by decide +kernel
theorem dX4_got_245 : decode cX4_got 245 = .ok (.lreturn, 1) := by decide +kernel
theorem dX4_gotEnd_0 : decode cX4_gotEnd 0 = .ok (.aload_n 1, 1) := by decide +kernel
theorem dX4_gotEnd_1 : decode cX4_gotEnd 1 = .ok (.getfield 80, 3) := by decide +kernel
theorem dX4_gotEnd_4 : decode cX4_gotEnd 4 = .ok (.getfield 108, 3) := by decide +kernel
theorem dX4_gotEnd_7 : decode cX4_gotEnd 7 = .ok (.iload_n 2, 1) := by decide +kernel
theorem dX4_gotEnd_8 : decode cX4_gotEnd 8 = .ok (.aaload, 1) := by decide +kernel
theorem dX4_gotEnd_9 : decode cX4_gotEnd 9 = .ok (.astore_n 3, 1) := by decide +kernel
theorem dX4_gotEnd_10 : decode cX4_gotEnd 10 = .ok (.aload_n 1, 1) := by decide +kernel
theorem dX4_gotEnd_11 : decode cX4_gotEnd 11 = .ok (.getfield 130, 3) := by decide +kernel
theorem dX4_gotEnd_14 : decode cX4_gotEnd 14 = .ok (.iload_n 2, 1) := by decide +kernel
theorem dX4_gotEnd_15 : decode cX4_gotEnd 15 = .ok (.iconst 1, 1) := by decide +kernel
theorem dX4_gotEnd_16 : decode cX4_gotEnd 16 = .ok (.bastore, 1) := by decide +kernel
theorem dX4_gotEnd_17 : decode cX4_gotEnd 17 = .ok (.aload_n 3, 1) := by decide +kernel
theorem dX4_gotEnd_18 : decode cX4_gotEnd 18 = .ok (.getfield 134, 3) := by decide +kernel
theorem dX4_gotEnd_21 : decode cX4_gotEnd 21 = .ok (.getstatic 205, 3) := by decide +kernel
theorem dX4_gotEnd_24 : decode cX4_gotEnd 24 = .ok (.if_acmp .ne 11, 3) := by decide +kernel
theorem dX4_gotEnd_27 : decode cX4_gotEnd 27 = .ok (.aload_n 1, 1) := by decide +kernel
theorem dX4_gotEnd_28 : decode cX4_gotEnd 28 = .ok (.getfield 127, 3) := by decide +kernel
theorem dX4_gotEnd_31 : decode cX4_gotEnd 31 = .ok (.iload_n 2, 1) := by decide +kernel
theorem dX4_gotEnd_32 : decode cX4_gotEnd 32 = .ok (.iaload, 1) := by decide +kernel
theorem dX4_gotEnd_33 : decode cX4_gotEnd 33 = .ok (.i2l, 1) := by decide +kernel
theorem dX4_gotEnd_34 : decode cX4_gotEnd 34 = .ok (.lreturn, 1) := by decide +kernel
theorem dX4_gotEnd_35 : decode cX4_gotEnd 35 = .ok (.iconst (-1), 1) := by decide +kernel
theorem dX4_gotEnd_36 : decode cX4_gotEnd 36 = .ok (.aload_n 3, 1) := by decide +kernel
theorem dX4_gotEnd_37 : decode cX4_gotEnd 37 = .ok (.getfield 120, 3) := by decide +kernel
theorem dX4_gotEnd_40 : decode cX4_gotEnd 40 = .ok (.iconst 0, 1) := by decide +kernel
theorem dX4_gotEnd_41 : decode cX4_gotEnd 41 = .ok (.iaload, 1) := by decide +kernel
theorem dX4_gotEnd_42 : decode cX4_gotEnd 42 = .ok (.isub, 1) := by decide +kernel
theorem dX4_gotEnd_43 : decode cX4_gotEnd 43 = .ok (.istore 4, 2) := by decide +kernel
theorem dX4_gotEnd_45 : decode cX4_gotEnd 45 = .ok (.aload_n 3, 1) := by decide +kernel
theorem dX4_gotEnd_46 : decode cX4_gotEnd 46 = .ok (.getfield 134, 3) := by decide +kernel
theorem dX4_gotEnd_49 : decode cX4_gotEnd 49 = .ok (.getstatic 208, 3) := by decide +kernel
theorem dX4_gotEnd_52 : decode cX4_gotEnd 52 = .ok (.if_acmp .ne 33, 3) := by decide +kernel
theorem dX4_gotEnd_55 : decode cX4_gotEnd 55 = .ok (.aload_n 1, 1) := by decide +kernel
theorem dX4_gotEnd_56 : decode cX4_gotEnd 56 = .ok (.getfield 93, 3) := by decide +kernel
theorem dX4_gotEnd_59 : decode cX4_gotEnd 59 = .ok (.iload_n 2, 1) := by decide +kernel
theorem dX4_gotEnd_60 : decode cX4_gotEnd 60 = .ok (.iaload, 1) := by decide +kernel
theorem dX4_gotEnd_61 : decode cX4_gotEnd 61 = .ok (.ifCond .ne 24, 3) := by decide +kernel
theorem dX4_gotEnd_64 : decode cX4_gotEnd 64 = .ok (.iload 4, 2) := by decide +kernel
theorem dX4_gotEnd_66 : decode cX4_gotEnd 66 = .ok (.invokestatic 142, 3) := by decide +kernel
theorem dX4_gotEnd_69 : decode cX4_gotEnd 69 = .ok (.ifCond .eq 16, 3) := by decide +kernel
theorem dX4_gotEnd_72 : decode cX4_gotEnd 72 = .ok (.aload_n 0, 1) := by decide +kernel
theorem dX4_gotEnd_73 : decode cX4_gotEnd 73 = .ok (.getfield 146, 3) := by decide +kernel
theorem dX4_gotEnd_76 : decode cX4_gotEnd 76 = .ok (.iload 4, 2) := by decide +kernel
theorem dX4_gotEnd_78 : decode cX4_gotEnd 78 = .ok (.aload_n 1, 1) := by decide +kernel
theorem dX4_gotEnd_79 : decode cX4_gotEnd 79 = .ok (.getfield 127, 3) := by decide +kernel
theorem dX4_gotEnd_82 : decode cX4_gotEnd 82 = .ok (.iload_n 2, 1) := by decide +kernel
theorem dX4_gotEnd_83 : decode cX4_gotEnd 83 = .ok (.iaload, 1) := by decide +kernel
theorem dX4_gotEnd_84 : decode cX4_gotEnd 84 = .ok (.iastore, 1) := by decide +kernel
theorem dX4_gotEnd_85 : decode cX4_gotEnd 85 = .ok (.ldc2_w 73, 3) := by decide +kernel
theorem dX4_gotEnd_88 : decode cX4_gotEnd 88 = .ok (.lreturn, 1) := by decide +kernel
theorem dX4_gives_0 : decode cX4_gives 0 = .ok (.aload_n 0, 1) := by decide +kernel
theorem dX4_gives_1 : decode cX4_gives 1 = .ok (.getfield 127, 3) := by decide +kernel
theorem dX4_gives_4 : decode cX4_gives 4 = .ok (.iload_n 1, 1) := by decide +kernel
theorem dX4_gives_5 : decode cX4_gives 5 = .ok (.dup2, 1) := by decide +kernel
theorem dX4_gives_6 : decode cX4_gives 6 = .ok (.iaload, 1) := by decide +kernel
theorem dX4_gives_7 : decode cX4_gives 7 = .ok (.iconst 1, 1) := by decide +kernel
theorem dX4_gives_8 : decode cX4_gives 8 = .ok (.iadd, 1) := by decide +kernel
theorem dX4_gives_9 : decode cX4_gives 9 = .ok (.iastore, 1) := by decide +kernel
theorem dX4_gives_10 : decode cX4_gives 10 = .ok (.lload_n 2, 1) := by decide +kernel
theorem dX4_gives_11 : decode cX4_gives 11 = .ok (.lreturn, 1) := by decide +kernel
theorem dX4_end_0 : decode cX4_end 0 = .ok (.aload_n 0, 1) := by decide +kernel
theorem dX4_end_1 : decode cX4_end 1 = .ok (.getfield 130, 3) := by decide +kernel
theorem dX4_end_4 : decode cX4_end 4 = .ok (.iload_n 1, 1) := by decide +kernel
theorem dX4_end_5 : decode cX4_end 5 = .ok (.iconst 1, 1) := by decide +kernel
theorem dX4_end_6 : decode cX4_end 6 = .ok (.bastore, 1) := by decide +kernel
theorem dX4_end_7 : decode cX4_end 7 = .ok (.ldc2_w 73, 3) := by decide +kernel
theorem dX4_end_10 : decode cX4_end 10 = .ok (.lreturn, 1) := by decide +kernel
theorem dX4_goInner_0 : decode cX4_goInner 0 = .ok (.aload_n 2, 1) := by decide +kernel
theorem dX4_goInner_1 : decode cX4_goInner 1 = .ok (.getfield 80, 3) := by decide +kernel
theorem dX4_goInner_4 : decode cX4_goInner 4 = .ok (.getfield 108, 3) := by decide +kernel
theorem dX4_goInner_7 : decode cX4_goInner 7 = .ok (.iload_n 3, 1) := by decide +kernel
theorem dX4_goInner_8 : decode cX4_goInner 8 = .ok (.aaload, 1) := by decide +kernel
theorem dX4_goInner_9 : decode cX4_goInner 9 = .ok (.astore 5, 2) := by decide +kernel
theorem dX4_goInner_11 : decode cX4_goInner 11 = .ok (.aload 5, 2) := by decide +kernel
theorem dX4_goInner_13 : decode cX4_goInner 13 = .ok (.getfield 134, 3) := by decide +kernel
theorem dX4_goInner_16 : decode cX4_goInner 16 = .ok (.getfield 211, 3) := by decide +kernel
theorem dX4_goInner_19 : decode cX4_goInner 19 = .ok (.istore 6, 2) := by decide +kernel
theorem dX4_goInner_21 : decode cX4_goInner 21 = .ok (.iload 6, 2) := by decide +kernel
theorem dX4_goInner_23 : decode cX4_goInner 23 = .ok (.invokestatic 214, 3) := by decide +kernel
theorem dX4_goInner_26 : decode cX4_goInner 26 = .ok (.istore 7, 2) := by decide +kernel
theorem dX4_goInner_28 : decode cX4_goInner 28 = .ok (.iload 7, 2) := by decide +kernel
theorem dX4_goInner_30 : decode cX4_goInner 30 = .ok (.ifCond .eq 17, 3) := by decide +kernel
theorem dX4_goInner_33 : decode cX4_goInner 33 = .ok (.aload_n 0, 1) := by decide +kernel
theorem dX4_goInner_34 : decode cX4_goInner 34 = .ok (.aload_n 1, 1) := by decide +kernel
theorem dX4_goInner_35 : decode cX4_goInner 35 = .ok (.getfield 217, 3) := by decide +kernel
theorem dX4_goInner_38 : decode cX4_goInner 38 = .ok (.iload 6, 2) := by decide +kernel
theorem dX4_goInner_40 : decode cX4_goInner 40 = .ok (.iaload, 1) := by decide +kernel
theorem dX4_goInner_41 : decode cX4_goInner 41 = .ok (.invokevirtual 45, 3) := by decide +kernel
theorem dX4_goInner_44 : decode cX4_goInner 44 = .ok (.goto 8, 3) := by decide +kernel
theorem dX4_goInner_47 : decode cX4_goInner 47 = .ok (.aload 5, 2) := by decide +kernel
theorem dX4_goInner_49 : decode cX4_goInner 49 = .ok (.getfield 220, 3) := by decide +kernel
theorem dX4_goInner_52 : decode cX4_goInner 52 = .ok (.astore 8, 2) := by decide +kernel
theorem dX4_goInner_54 : decode cX4_goInner 54 = .ok (.iload 7, 2) := by decide +kernel
theorem dX4_goInner_56 : decode cX4_goInner 56 = .ok (.ifCond .eq 12, 3) := by decide +kernel
theorem dX4_goInner_59 : decode cX4_goInner 59 = .ok (.aload_n 2, 1) := by decide +kernel
theorem dX4_goInner_60 : decode cX4_goInner 60 = .ok (.getfield 223, 3) := by decide +kernel
theorem dX4_goInner_63 : decode cX4_goInner 63 = .ok (.iconst 1, 1) := by decide +kernel
theorem dX4_goInner_64 : decode cX4_goInner 64 = .ok (.iadd, 1) := by decide +kernel
theorem dX4_goInner_65 : decode cX4_goInner 65 = .ok (.goto 7, 3) := by decide +kernel
theorem dX4_goInner_68 : decode cX4_goInner 68 = .ok (.aload_n 2, 1) := by decide +kernel
theorem dX4_goInner_69 : decode cX4_goInner 69 = .ok (.getfield 223, 3) := by decide +kernel
theorem dX4_goInner_72 : decode cX4_goInner 72 = .ok (.istore 9, 2) := by decide +kernel
theorem dX4_goInner_74 : decode cX4_goInner 74 = .ok (.aload 8, 2) := by decide +kernel
theorem dX4_goInner_76 : decode cX4_goInner 76 = .ok (.ifnonnull 5, 3) := by decide +kernel
theorem dX4_goInner_79 : decode cX4_goInner 79 = .ok (.iconst 1, 1) := by decide +kernel
theorem dX4_goInner_80 : decode cX4_goInner 80 = .ok (.ireturn, 1) := by decide +kernel
theorem dX4_goInner_81 : decode cX4_goInner 81 = .ok (.iload 9, 2) := by decide +kernel
theorem dX4_goInner_83 : decode cX4_goInner 83 = .ok (.iconst 4, 1) := by decide +kernel
theorem dX4_goInner_84 : decode cX4_goInner 84 = .ok (.if_icmp .gt 10, 3) := by decide +kernel
theorem dX4_goInner_87 : decode cX4_goInner 87 = .ok (.iload 4, 2) := by decide +kernel
theorem dX4_goInner_89 : decode cX4_goInner 89 = .ok (.bipush 20, 2) := by decide +kernel
theorem dX4_goInner_91 : decode cX4_goInner 91 = .ok (.if_icmp .lt 6, 3) := by decide +kernel
theorem dX4_goInner_94 : decode cX4_goInner 94 = .ok (.bipush 9, 2) := by decide +kernel
theorem dX4_goInner_96 : decode cX4_goInner 96 = .ok (.ireturn, 1) := by decide +kernel
theorem dX4_goInner_97 : decode cX4_goInner 97 = .ok (.iload 7, 2) := by decide +kernel
theorem dX4_goInner_99 : decode cX4_goInner 99 = .ok (.ifCond .eq 14, 3) := by decide +kernel
theorem dX4_goInner_102 : decode cX4_goInner 102 = .ok (.aload_n 2, 1) := by decide +kernel
theorem dX4_goInner_103 : decode cX4_goInner 103 = .ok (.getfield 117, 3) := by decide +kernel
theorem dX4_goInner_106 : decode cX4_goInner 106 = .ok (.iload_n 3, 1) := by decide +kernel
theorem dX4_goInner_107 : decode cX4_goInner 107 = .ok (.iconst 4, 1) := by decide +kernel
theorem dX4_goInner_108 : decode cX4_goInner 108 = .ok (.imul, 1) := by decide +kernel
theorem dX4_goInner_109 : decode cX4_goInner 109 = .ok (.iaload, 1) := by decide +kernel
theorem dX4_goInner_110 : decode cX4_goInner 110 = .ok (.goto 7, 3) := by decide +kernel
theorem dX4_goInner_113 : decode cX4_goInner 113 = .ok (.aload_n 2, 1) := by decide +kernel
theorem dX4_goInner_114 : decode cX4_goInner 114 = .ok (.getfield 149, 3) := by decide +kernel
theorem dX4_goInner_117 : decode cX4_goInner 117 = .ok (.istore 10, 2) := by decide +kernel
theorem dX4_goInner_119 : decode cX4_goInner 119 = .ok (.aload_n 0, 1) := by decide +kernel
theorem dX4_goInner_120 : decode cX4_goInner 120 = .ok (.aload_n 1, 1) := by decide +kernel
theorem dX4_goInner_121 : decode cX4_goInner 121 = .ok (.aload 8, 2) := by decide +kernel
theorem dX4_goInner_123 : decode cX4_goInner 123 = .ok (.iload 10, 2) := by decide +kernel
theorem dX4_goInner_125 : decode cX4_goInner 125 = .ok (.iload 9, 2) := by decide +kernel
theorem dX4_goInner_127 : decode cX4_goInner 127 = .ok (.iload 4, 2) := by decide +kernel
theorem dX4_goInner_129 : decode cX4_goInner 129 = .ok (.aload_n 2, 1) := by decide +kernel
theorem dX4_goInner_130 : decode cX4_goInner 130 = .ok (.getfield 177, 3) := by decide +kernel
theorem dX4_goInner_133 : decode cX4_goInner 133 = .ok (.invokevirtual 49, 3) := by decide +kernel
theorem dX4_goInner_136 : decode cX4_goInner 136 = .ok (.ireturn, 1) := by decide +kernel
theorem dX5_init_0 : decode cX5_init 0 = .ok (.aload_n 0, 1) := by decide +kernel
theorem dX5_init_1 : decode cX5_init 1 = .ok (.invokespecial 3, 3) := by decide +kernel
theorem dX5_init_4 : decode cX5_init 4 = .ok (.aload_n 0, 1) := by decide +kernel
theorem dX5_init_5 : decode cX5_init 5 = .ok (.bipush 60, 2) := by decide +kernel
theorem dX5_init_7 : decode cX5_init 7 = .ok (.newarray .int, 2) := by decide +kernel
theorem dX5_init_9 : decode cX5_init 9 = .ok (.putfield 9, 3) := by decide +kernel
theorem dX5_init_12 : decode cX5_init 12 = .ok (.return_, 1) := by decide +kernel
theorem dX5_add_0 : decode cX5_add 0 = .ok (.aload_n 0, 1) := by decide +kernel
theorem dX5_add_1 : decode cX5_add 1 = .ok (.getfield 15, 3) := by decide +kernel
theorem dX5_add_4 : decode cX5_add 4 = .ok (.bipush 60, 2) := by decide +kernel
theorem dX5_add_6 : decode cX5_add 6 = .ok (.if_icmp .ge 24, 3) := by decide +kernel
theorem dX5_add_9 : decode cX5_add 9 = .ok (.aload_n 0, 1) := by decide +kernel
theorem dX5_add_10 : decode cX5_add 10 = .ok (.getfield 9, 3) := by decide +kernel
theorem dX5_add_13 : decode cX5_add 13 = .ok (.aload_n 0, 1) := by decide +kernel
theorem dX5_add_14 : decode cX5_add 14 = .ok (.getfield 15, 3) := by decide +kernel
theorem dX5_add_17 : decode cX5_add 17 = .ok (.lload_n 1, 1) := by decide +kernel
theorem dX5_add_18 : decode cX5_add 18 = .ok (.l2i, 1) := by decide +kernel
theorem dX5_add_19 : decode cX5_add 19 = .ok (.iastore, 1) := by decide +kernel
theorem dX5_add_20 : decode cX5_add 20 = .ok (.aload_n 0, 1) := by decide +kernel
theorem dX5_add_21 : decode cX5_add 21 = .ok (.dup, 1) := by decide +kernel
theorem dX5_add_22 : decode cX5_add 22 = .ok (.getfield 15, 3) := by decide +kernel
theorem dX5_add_25 : decode cX5_add 25 = .ok (.iconst 1, 1) := by decide +kernel
theorem dX5_add_26 : decode cX5_add 26 = .ok (.iadd, 1) := by decide +kernel
theorem dX5_add_27 : decode cX5_add 27 = .ok (.putfield 15, 3) := by decide +kernel
theorem dX5_add_30 : decode cX5_add 30 = .ok (.return_, 1) := by decide +kernel
theorem dX5_at_0 : decode cX5_at 0 = .ok (.iload_n 1, 1) := by decide +kernel
theorem dX5_at_1 : decode cX5_at 1 = .ok (.ifCond .lt 21, 3) := by decide +kernel
theorem dX5_at_4 : decode cX5_at 4 = .ok (.iload_n 1, 1) := by decide +kernel
theorem dX5_at_5 : decode cX5_at 5 = .ok (.aload_n 0, 1) := by decide +kernel
theorem dX5_at_6 : decode cX5_at 6 = .ok (.getfield 15, 3) := by decide +kernel
theorem dX5_at_9 : decode cX5_at 9 = .ok (.if_icmp .ge 13, 3) := by decide +kernel
theorem dX5_at_12 : decode cX5_at 12 = .ok (.aload_n 0, 1) := by decide +kernel
theorem dX5_at_13 : decode cX5_at 13 = .ok (.getfield 9, 3) := by decide +kernel
theorem dX5_at_16 : decode cX5_at 16 = .ok (.iload_n 1, 1) := by decide +kernel
theorem dX5_at_17 : decode cX5_at 17 = .ok (.iaload, 1) := by decide +kernel
theorem dX5_at_18 : decode cX5_at 18 = .ok (.i2l, 1) := by decide +kernel
theorem dX5_at_19 : decode cX5_at 19 = .ok (.goto 6, 3) := by decide +kernel
theorem dX5_at_22 : decode cX5_at 22 = .ok (.ldc2_w 19, 3) := by decide +kernel
theorem dX5_at_25 : decode cX5_at 25 = .ok (.lreturn, 1) := by decide +kernel
theorem dX5_sum_0 : decode cX5_sum 0 = .ok (.lconst 0, 1) := by decide +kernel
theorem dX5_sum_1 : decode cX5_sum 1 = .ok (.lstore_n 1, 1) := by decide +kernel
theorem dX5_sum_2 : decode cX5_sum 2 = .ok (.iconst 0, 1) := by decide +kernel
theorem dX5_sum_3 : decode cX5_sum 3 = .ok (.istore_n 3, 1) := by decide +kernel
theorem dX5_sum_4 : decode cX5_sum 4 = .ok (.iload_n 3, 1) := by decide +kernel
theorem dX5_sum_5 : decode cX5_sum 5 = .ok (.aload_n 0, 1) := by decide +kernel
theorem dX5_sum_6 : decode cX5_sum 6 = .ok (.getfield 15, 3) := by decide +kernel
theorem dX5_sum_9 : decode cX5_sum 9 = .ok (.if_icmp .ge 19, 3) := by decide +kernel
theorem dX5_sum_12 : decode cX5_sum 12 = .ok (.lload_n 1, 1) := by decide +kernel
theorem dX5_sum_13 : decode cX5_sum 13 = .ok (.aload_n 0, 1) := by decide +kernel
theorem dX5_sum_14 : decode cX5_sum 14 = .ok (.getfield 9, 3) := by decide +kernel
theorem dX5_sum_17 : decode cX5_sum 17 = .ok (.iload_n 3, 1) := by decide +kernel
theorem dX5_sum_18 : decode cX5_sum 18 = .ok (.iaload, 1) := by decide +kernel
theorem dX5_sum_19 : decode cX5_sum 19 = .ok (.i2l, 1) := by decide +kernel
theorem dX5_sum_20 : decode cX5_sum 20 = .ok (.ladd, 1) := by decide +kernel
theorem dX5_sum_21 : decode cX5_sum 21 = .ok (.lstore_n 1, 1) := by decide +kernel
theorem dX5_sum_22 : decode cX5_sum 22 = .ok (.iinc 3 1, 3) := by decide +kernel
theorem dX5_sum_25 : decode cX5_sum 25 = .ok (.goto (-21), 3) := by decide +kernel
theorem dX5_sum_28 : decode cX5_sum 28 = .ok (.lload_n 1, 1) := by decide +kernel
theorem dX5_sum_29 : decode cX5_sum 29 = .ok (.lreturn, 1) := by decide +kernel
theorem dX5_isLike_0 : decode cX5_isLike 0 = .ok (.aload_n 0, 1) := by decide +kernel
theorem dX5_isLike_1 : decode cX5_isLike 1 = .ok (.getfield 15, 3) := by decide +kernel
theorem dX5_isLike_4 : decode cX5_isLike 4 = .ok (.aload_n 1, 1) := by decide +kernel
theorem dX5_isLike_5 : decode cX5_isLike 5 = .ok (.getfield 15, 3) := by decide +kernel
theorem dX5_isLike_8 : decode cX5_isLike 8 = .ok (.if_icmp .ne 7, 3) := by decide +kernel
theorem dX5_isLike_11 : decode cX5_isLike 11 = .ok (.iconst 1, 1) := by decide +kernel
theorem dX5_isLike_12 : decode cX5_isLike 12 = .ok (.goto 4, 3) := by decide +kernel
theorem dX5_isLike_15 : decode cX5_isLike 15 = .ok (.iconst 0, 1) := by decide +kernel
theorem dX5_isLike_16 : decode cX5_isLike 16 = .ok (.istore_n 2, 1) := by decide +kernel
theorem dX5_isLike_17 : decode cX5_isLike 17 = .ok (.iconst 0, 1) := by decide +kernel
theorem dX5_isLike_18 : decode cX5_isLike 18 = .ok (.istore_n 3, 1) := by decide +kernel
theorem dX5_isLike_19 : decode cX5_isLike 19 = .ok (.iload_n 2, 1) := by decide +kernel
theorem dX5_isLike_20 : decode cX5_isLike 20 = .ok (.ifCond .eq 38, 3) := by decide +kernel
theorem dX5_isLike_23 : decode cX5_isLike 23 = .ok (.iload_n 3, 1) := by decide +kernel
theorem dX5_isLike_24 : decode cX5_isLike 24 = .ok (.aload_n 0, 1) := by decide +kernel
theorem dX5_isLike_25 : decode cX5_isLike 25 = .ok (.getfield 15, 3) := by decide +kernel
theorem dX5_isLike_28 : decode cX5_isLike 28 = .ok (.if_icmp .ge 30, 3) := by decide +kernel
theorem dX5_isLike_31 : decode cX5_isLike 31 = .ok (.aload_n 0, 1) := by decide +kernel
theorem dX5_isLike_32 : decode cX5_isLike 32 = .ok (.getfield 9, 3) := by decide +kernel
theorem dX5_isLike_35 : decode cX5_isLike 35 = .ok (.iload_n 3, 1) := by decide +kernel
theorem dX5_isLike_36 : decode cX5_isLike 36 = .ok (.iaload, 1) := by decide +kernel
theorem dX5_isLike_37 : decode cX5_isLike 37 = .ok (.aload_n 1, 1) := by decide +kernel
theorem dX5_isLike_38 : decode cX5_isLike 38 = .ok (.getfield 9, 3) := by decide +kernel
theorem dX5_isLike_41 : decode cX5_isLike 41 = .ok (.iload_n 3, 1) := by decide +kernel
theorem dX5_isLike_42 : decode cX5_isLike 42 = .ok (.iaload, 1) := by decide +kernel
theorem dX5_isLike_43 : decode cX5_isLike 43 = .ok (.if_icmp .ne 7, 3) := by decide +kernel
theorem dX5_isLike_46 : decode cX5_isLike 46 = .ok (.iconst 1, 1) := by decide +kernel
theorem dX5_isLike_47 : decode cX5_isLike 47 = .ok (.goto 4, 3) := by decide +kernel
theorem dX5_isLike_50 : decode cX5_isLike 50 = .ok (.iconst 0, 1) := by decide +kernel
theorem dX5_isLike_51 : decode cX5_isLike 51 = .ok (.istore_n 2, 1) := by decide +kernel
theorem dX5_isLike_52 : decode cX5_isLike 52 = .ok (.iinc 3 1, 3) := by decide +kernel
theorem dX5_isLike_55 : decode cX5_isLike 55 = .ok (.goto (-36), 3) := by decide +kernel
theorem dX5_isLike_58 : decode cX5_isLike 58 = .ok (.iload_n 2, 1) := by decide +kernel
theorem dX5_isLike_59 : decode cX5_isLike 59 = .ok (.ireturn, 1) := by decide +kernel
theorem dX5_copyFrom_0 : decode cX5_copyFrom 0 = .ok (.aload_n 1, 1) := by decide +kernel
theorem dX5_copyFrom_1 : decode cX5_copyFrom 1 = .ok (.getfield 9, 3) := by decide +kernel
theorem dX5_copyFrom_4 : decode cX5_copyFrom 4 = .ok (.iconst 0, 1) := by decide +kernel
theorem dX5_copyFrom_5 : decode cX5_copyFrom 5 = .ok (.aload_n 0, 1) := by decide +kernel
theorem dX5_copyFrom_6 : decode cX5_copyFrom 6 = .ok (.getfield 9, 3) := by decide +kernel
theorem dX5_copyFrom_9 : decode cX5_copyFrom 9 = .ok (.iconst 0, 1) := by decide +kernel
theorem dX5_copyFrom_10 : decode cX5_copyFrom 10 = .ok (.aload_n 1, 1) := by decide +kernel
theorem dX5_copyFrom_11 : decode cX5_copyFrom 11 = .ok (.getfield 15, 3) := by decide +kernel
theorem dX5_copyFrom_14 : decode cX5_copyFrom 14 = .ok (.invokestatic 21, 3) := by decide +kernel
theorem dX5_copyFrom_17 : decode cX5_copyFrom 17 = .ok (.aload_n 0, 1) := by decide +kernel
theorem dX5_copyFrom_18 : decode cX5_copyFrom 18 = .ok (.aload_n 1, 1) := by decide +kernel
theorem dX5_copyFrom_19 : decode cX5_copyFrom 19 = .ok (.getfield 15, 3) := by decide +kernel
theorem dX5_copyFrom_22 : decode cX5_copyFrom 22 = .ok (.putfield 15, 3) := by decide +kernel
theorem dX5_copyFrom_25 : decode cX5_copyFrom 25 = .ok (.return_, 1) := by decide +kernel
theorem dX6_init_0 : decode cX6_init 0 = .ok (.aload_n 0, 1) := by decide +kernel
theorem dX6_init_1 : decode cX6_init 1 = .ok (.invokespecial 3, 3) := by decide +kernel
theorem dX6_init_4 : decode cX6_init 4 = .ok (.aload_n 0, 1) := by decide +kernel
theorem dX6_init_5 : decode cX6_init 5 = .ok (.bipush 6, 2) := by decide +kernel
theorem dX6_init_7 : decode cX6_init 7 = .ok (.anewarray 9, 3) := by decide +kernel
theorem dX6_init_10 : decode cX6_init 10 = .ok (.putfield 11, 3) := by decide +kernel
theorem dX6_init_13 : decode cX6_init 13 = .ok (.aload_n 0, 1) := by decide +kernel
theorem dX6_init_14 : decode cX6_init 14 = .ok (.iconst 1, 1) := by decide +kernel
theorem dX6_init_15 : decode cX6_init 15 = .ok (.putfield 17, 3) := by decide +kernel
theorem dX6_init_18 : decode cX6_init 18 = .ok (.aload_n 0, 1) := by decide +kernel
theorem dX6_init_19 : decode cX6_init 19 = .ok (.bipush 59, 2) := by decide +kernel
theorem dX6_init_21 : decode cX6_init 21 = .ok (.putfield 21, 3) := by decide +kernel
theorem dX6_init_24 : decode cX6_init 24 = .ok (.aload_n 0, 1) := by decide +kernel
theorem dX6_init_25 : decode cX6_init 25 = .ok (.getfield 11, 3) := by decide +kernel
theorem dX6_init_28 : decode cX6_init 28 = .ok (.iconst 0, 1) := by decide +kernel
theorem dX6_init_29 : decode cX6_init 29 = .ok (.aload_n 1, 1) := by decide +kernel
theorem dX6_init_30 : decode cX6_init 30 = .ok (.aastore, 1) := by decide +kernel
theorem dX6_init_31 : decode cX6_init 31 = .ok (.return_, 1) := by decide +kernel
theorem dX7_init_0 : decode cX7_init 0 = .ok (.aload_n 0, 1) := by decide +kernel
theorem dX7_init_1 : decode cX7_init 1 = .ok (.invokespecial 3, 3) := by decide +kernel
theorem dX7_init_4 : decode cX7_init 4 = .ok (.aload_n 0, 1) := by decide +kernel
theorem dX7_init_5 : decode cX7_init 5 = .ok (.invokestatic 9, 3) := by decide +kernel
theorem dX7_init_8 : decode cX7_init 8 = .ok (.putfield 15, 3) := by decide +kernel
theorem dX7_init_11 : decode cX7_init 11 = .ok (.aload_n 0, 1) := by decide +kernel
theorem dX7_init_12 : decode cX7_init 12 = .ok (.bipush 100, 2) := by decide +kernel
theorem dX7_init_14 : decode cX7_init 14 = .ok (.newarray .byte, 2) := by decide +kernel
theorem dX7_init_16 : decode cX7_init 16 = .ok (.putfield 21, 3) := by decide +kernel
theorem dX7_init_19 : decode cX7_init 19 = .ok (.return_, 1) := by decide +kernel
theorem dX7_add_0 : decode cX7_add 0 = .ok (.aload_n 0, 1) := by decide +kernel
theorem dX7_add_1 : decode cX7_add 1 = .ok (.getfield 25, 3) := by decide +kernel
theorem dX7_add_4 : decode cX7_add 4 = .ok (.bipush 100, 2) := by decide +kernel
theorem dX7_add_6 : decode cX7_add 6 = .ok (.if_icmp .lt 5, 3) := by decide +kernel
theorem dX7_add_9 : decode cX7_add 9 = .ok (.iconst 0, 1) := by decide +kernel
theorem dX7_add_10 : decode cX7_add 10 = .ok (.ireturn, 1) := by decide +kernel
theorem dX7_add_11 : decode cX7_add 11 = .ok (.aload_n 0, 1) := by decide +kernel
theorem dX7_add_12 : decode cX7_add 12 = .ok (.getfield 21, 3) := by decide +kernel
theorem dX7_add_15 : decode cX7_add 15 = .ok (.aload_n 0, 1) := by decide +kernel
theorem dX7_add_16 : decode cX7_add 16 = .ok (.getfield 25, 3) := by decide +kernel
theorem dX7_add_19 : decode cX7_add 19 = .ok (.iload_n 1, 1) := by decide +kernel
theorem dX7_add_20 : decode cX7_add 20 = .ok (.i2b, 1) := by decide +kernel
theorem dX7_add_21 : decode cX7_add 21 = .ok (.bastore, 1) := by decide +kernel
theorem dX7_add_22 : decode cX7_add 22 = .ok (.aload_n 0, 1) := by decide +kernel
theorem dX7_add_23 : decode cX7_add 23 = .ok (.dup, 1) := by decide +kernel
theorem dX7_add_24 : decode cX7_add 24 = .ok (.getfield 25, 3) := by decide +kernel
theorem dX7_add_27 : decode cX7_add 27 = .ok (.iconst 1, 1) := by decide +kernel
theorem dX7_add_28 : decode cX7_add 28 = .ok (.iadd, 1) := by decide +kernel
theorem dX7_add_29 : decode cX7_add 29 = .ok (.putfield 25, 3) := by decide +kernel
theorem dX7_add_32 : decode cX7_add 32 = .ok (.iconst 1, 1) := by decide +kernel
theorem dX7_add_33 : decode cX7_add 33 = .ok (.ireturn, 1) := by decide +kernel
theorem dX7_readLine_0 : decode cX7_readLine 0 = .ok (.aload_n 0, 1) := by decide +kernel
theorem dX7_readLine_1 : decode cX7_readLine 1 = .ok (.iconst 0, 1) := by decide +kernel
theorem dX7_readLine_2 : decode cX7_readLine 2 = .ok (.putfield 29, 3) := by decide +kernel
theorem dX7_readLine_5 : decode cX7_readLine 5 = .ok (.aload_n 0, 1) := by decide +kernel
theorem dX7_readLine_6 : decode cX7_readLine 6 = .ok (.iconst 0, 1) := by decide +kernel
theorem dX7_readLine_7 : decode cX7_readLine 7 = .ok (.putfield 32, 3) := by decide +kernel
theorem dX7_readLine_10 : decode cX7_readLine 10 = .ok (.aload_n 0, 1) := by decide +kernel
theorem dX7_readLine_11 : decode cX7_readLine 11 = .ok (.iconst 0, 1) := by decide +kernel
theorem dX7_readLine_12 : decode cX7_readLine 12 = .ok (.putfield 35, 3) := by decide +kernel
theorem dX7_readLine_15 : decode cX7_readLine 15 = .ok (.aload_n 0, 1) := by decide +kernel
theorem dX7_readLine_16 : decode cX7_readLine 16 = .ok (.iconst 0, 1) := by decide +kernel
theorem dX7_readLine_17 : decode cX7_readLine 17 = .ok (.invokevirtual 38, 3) := by decide +kernel
theorem dX7_readLine_20 : decode cX7_readLine 20 = .ok (.astore_n 1, 1) := by decide +kernel
theorem dX7_readLine_21 : decode cX7_readLine 21 = .ok (.aload_n 1, 1) := by decide +kernel
theorem dX7_readLine_22 : decode cX7_readLine 22 = .ok (.ifnull 25, 3) := by decide +kernel
theorem dX7_readLine_25 : decode cX7_readLine 25 = .ok (.aload_n 0, 1) := by decide +kernel
theorem dX7_readLine_26 : decode cX7_readLine 26 = .ok (.getfield 29, 3) := by decide +kernel
theorem dX7_readLine_29 : decode cX7_readLine 29 = .ok (.aload_n 0, 1) := by decide +kernel
theorem dX7_readLine_30 : decode cX7_readLine 30 = .ok (.getfield 25, 3) := by decide +kernel
theorem dX7_readLine_33 : decode cX7_readLine 33 = .ok (.if_icmp .ge 14, 3) := by decide +kernel
theorem dX7_readLine_36 : decode cX7_readLine 36 = .ok (.aload_n 0, 1) := by decide +kernel
theorem dX7_readLine_37 : decode cX7_readLine 37 = .ok (.aload_n 0, 1) := by decide +kernel
theorem dX7_readLine_38 : decode cX7_readLine 38 = .ok (.getfield 29, 3) := by decide +kernel
theorem dX7_readLine_41 : decode cX7_readLine 41 = .ok (.invokevirtual 42, 3) := by decide +kernel
theorem dX7_readLine_44 : decode cX7_readLine 44 = .ok (.pop, 1) := by decide +kernel
theorem dX7_readLine_45 : decode cX7_readLine 45 = .ok (.aconst_null, 1) := by decide +kernel
theorem dX7_readLine_46 : decode cX7_readLine 46 = .ok (.astore_n 1, 1) := by decide +kernel
theorem dX7_readLine_47 : decode cX7_readLine 47 = .ok (.aload_n 0, 1) := by decide +kernel
theorem dX7_readLine_48 : decode cX7_readLine 48 = .ok (.iconst 0, 1) := by decide +kernel
theorem dX7_readLine_49 : decode cX7_readLine 49 = .ok (.putfield 25, 3) := by decide +kernel
theorem dX7_readLine_52 : decode cX7_readLine 52 = .ok (.aload_n 1, 1) := by decide +kernel
theorem dX7_readLine_53 : decode cX7_readLine 53 = .ok (.ifnonnull 7, 3) := by decide +kernel
theorem dX7_readLine_56 : decode cX7_readLine 56 = .ok (.aconst_null, 1) := by decide +kernel
theorem dX7_readLine_57 : decode cX7_readLine 57 = .ok (.goto 23, 3) := by decide +kernel
theorem dX7_readLine_60 : decode cX7_readLine 60 = .ok (.new 46, 3) := by decide +kernel
theorem dX7_readLine_63 : decode cX7_readLine 63 = .ok (.dup, 1) := by decide +kernel
theorem dX7_readLine_64 : decode cX7_readLine 64 = .ok (.aload_n 1, 1) := by decide +kernel
theorem dX7_readLine_65 : decode cX7_readLine 65 = .ok (.aload_n 1, 1) := by decide +kernel
theorem dX7_readLine_66 : decode cX7_readLine 66 = .ok (.invokestatic 48, 3) := by decide +kernel
theorem dX7_readLine_69 : decode cX7_readLine 69 = .ok (.aload_n 0, 1) := by decide +kernel
theorem dX7_readLine_70 : decode cX7_readLine 70 = .ok (.getfield 32, 3) := by decide +kernel
theorem dX7_readLine_73 : decode cX7_readLine 73 = .ok (.aload_n 0, 1) := by decide +kernel
theorem dX7_readLine_74 : decode cX7_readLine 74 = .ok (.getfield 35, 3) := by decide +kernel
theorem dX7_readLine_77 : decode cX7_readLine 77 = .ok (.invokespecial 52, 3) := by decide +kernel
theorem dX7_readLine_80 : decode cX7_readLine 80 = .ok (.areturn, 1) := by decide +kernel
theorem dX7_sizeOf_0 : decode cX7_sizeOf 0 = .ok (.iconst 0, 1) := by decide +kernel
theorem dX7_sizeOf_1 : decode cX7_sizeOf 1 = .ok (.istore_n 1, 1) := by decide +kernel
theorem dX7_sizeOf_2 : decode cX7_sizeOf 2 = .ok (.aload_n 0, 1) := by decide +kernel
theorem dX7_sizeOf_3 : decode cX7_sizeOf 3 = .ok (.astore_n 2, 1) := by decide +kernel
theorem dX7_sizeOf_4 : decode cX7_sizeOf 4 = .ok (.aload_n 2, 1) := by decide +kernel
theorem dX7_sizeOf_5 : decode cX7_sizeOf 5 = .ok (.ifnull 14, 3) := by decide +kernel
theorem dX7_sizeOf_8 : decode cX7_sizeOf 8 = .ok (.iinc 1 1, 3) := by decide +kernel
theorem dX7_sizeOf_11 : decode cX7_sizeOf 11 = .ok (.aload_n 2, 1) := by decide +kernel
theorem dX7_sizeOf_12 : decode cX7_sizeOf 12 = .ok (.getfield 55, 3) := by decide +kernel
theorem dX7_sizeOf_15 : decode cX7_sizeOf 15 = .ok (.astore_n 2, 1) := by decide +kernel
theorem dX7_sizeOf_16 : decode cX7_sizeOf 16 = .ok (.goto (-12), 3) := by decide +kernel
theorem dX7_sizeOf_19 : decode cX7_sizeOf 19 = .ok (.iload_n 1, 1) := by decide +kernel
theorem dX7_sizeOf_20 : decode cX7_sizeOf 20 = .ok (.ireturn, 1) := by decide +kernel
theorem dX7_readList_0 : decode cX7_readList 0 = .ok (.aload_n 0, 1) := by decide +kernel
theorem dX7_readList_1 : decode cX7_readList 1 = .ok (.iload_n 1, 1) := by decide +kernel
theorem dX7_readList_2 : decode cX7_readList 2 = .ok (.invokevirtual 61, 3) := by decide +kernel
theorem dX7_readList_5 : decode cX7_readList 5 = .ok (.astore_n 2, 1) := by decide +kernel
theorem dX7_readList_6 : decode cX7_readList 6 = .ok (.aload_n 2, 1) := by decide +kernel
theorem dX7_readList_7 : decode cX7_readList 7 = .ok (.astore_n 3, 1) := by decide +kernel
theorem dX7_readList_8 : decode cX7_readList 8 = .ok (.iconst 0, 1) := by decide +kernel
theorem dX7_readList_9 : decode cX7_readList 9 = .ok (.istore 4, 2) := by decide +kernel
theorem dX7_readList_11 : decode cX7_readList 11 = .ok (.iload 4, 2) := by decide +kernel
theorem dX7_readList_13 : decode cX7_readList 13 = .ok (.bipush 100, 2) := by decide +kernel
theorem dX7_readList_15 : decode cX7_readList 15 = .ok (.if_icmp .ge 69, 3) := by decide +kernel
theorem dX7_readList_18 : decode cX7_readList 18 = .ok (.aload_n 3, 1) := by decide +kernel
theorem dX7_readList_19 : decode cX7_readList 19 = .ok (.ifnull 65, 3) := by decide +kernel
theorem dX7_readList_22 : decode cX7_readList 22 = .ok (.aload_n 0, 1) := by decide +kernel
theorem dX7_readList_23 : decode cX7_readList 23 = .ok (.invokevirtual 64, 3) := by decide +kernel
theorem dX7_readList_26 : decode cX7_readList 26 = .ok (.invokestatic 68, 3) := by decide +kernel
theorem dX7_readList_29 : decode cX7_readList 29 = .ok (.ifCond .eq 55, 3) := by decide +kernel
theorem dX7_readList_32 : decode cX7_readList 32 = .ok (.aload_n 0, 1) := by decide +kernel
theorem dX7_readList_33 : decode cX7_readList 33 = .ok (.invokevirtual 64, 3) := by decide +kernel
theorem dX7_readList_36 : decode cX7_readList 36 = .ok (.istore 5, 2) := by decide +kernel
theorem dX7_readList_38 : decode cX7_readList 38 = .ok (.aload_n 0, 1) := by decide +kernel
theorem dX7_readList_39 : decode cX7_readList 39 = .ok (.dup, 1) := by decide +kernel
theorem dX7_readList_40 : decode cX7_readList 40 = .ok (.getfield 29, 3) := by decide +kernel
theorem dX7_readList_43 : decode cX7_readList 43 = .ok (.iconst 1, 1) := by decide +kernel
theorem dX7_readList_44 : decode cX7_readList 44 = .ok (.iadd, 1) := by decide +kernel
theorem dX7_readList_45 : decode cX7_readList 45 = .ok (.putfield 29, 3) := by decide +kernel
theorem dX7_readList_48 : decode cX7_readList 48 = .ok (.aload_n 0, 1) := by decide +kernel
theorem dX7_readList_49 : decode cX7_readList 49 = .ok (.iload_n 1, 1) := by decide +kernel
theorem dX7_readList_50 : decode cX7_readList 50 = .ok (.invokevirtual 61, 3) := by decide +kernel
theorem dX7_readList_53 : decode cX7_readList 53 = .ok (.astore 6, 2) := by decide +kernel
theorem dX7_readList_55 : decode cX7_readList 55 = .ok (.aload 6, 2) := by decide +kernel
theorem dX7_readList_57 : decode cX7_readList 57 = .ok (.ifnonnull 5, 3) := by decide +kernel
theorem dX7_readList_60 : decode cX7_readList 60 = .ok (.aconst_null, 1) := by decide +kernel
theorem dX7_readList_61 : decode cX7_readList 61 = .ok (.areturn, 1) := by decide +kernel
theorem dX7_readList_62 : decode cX7_readList 62 = .ok (.aload 6, 2) := by decide +kernel
theorem dX7_readList_64 : decode cX7_readList 64 = .ok (.iload 5, 2) := by decide +kernel
theorem dX7_readList_66 : decode cX7_readList 66 = .ok (.putfield 71, 3) := by decide +kernel
theorem dX7_readList_69 : decode cX7_readList 69 = .ok (.aload_n 3, 1) := by decide +kernel
theorem dX7_readList_70 : decode cX7_readList 70 = .ok (.aload 6, 2) := by decide +kernel
theorem dX7_readList_72 : decode cX7_readList 72 = .ok (.putfield 55, 3) := by decide +kernel
theorem dX7_readList_75 : decode cX7_readList 75 = .ok (.aload 6, 2) := by decide +kernel
theorem dX7_readList_77 : decode cX7_readList 77 = .ok (.astore_n 3, 1) := by decide +kernel
theorem dX7_readList_78 : decode cX7_readList 78 = .ok (.iinc 4 1, 3) := by decide +kernel
theorem dX7_readList_81 : decode cX7_readList 81 = .ok (.goto (-70), 3) := by decide +kernel
theorem dX7_readList_84 : decode cX7_readList 84 = .ok (.aload_n 2, 1) := by decide +kernel
theorem dX7_readList_85 : decode cX7_readList 85 = .ok (.areturn, 1) := by decide +kernel
theorem dX7_readPipe_0 : decode cX7_readPipe 0 = .ok (.aload_n 0, 1) := by decide +kernel
theorem dX7_readPipe_1 : decode cX7_readPipe 1 = .ok (.invokevirtual 64, 3) := by decide +kernel
theorem dX7_readPipe_4 : decode cX7_readPipe 4 = .ok (.bipush 123, 2) := by decide +kernel
theorem dX7_readPipe_6 : decode cX7_readPipe 6 = .ok (.if_icmp .ne 11, 3) := by decide +kernel
theorem dX7_readPipe_9 : decode cX7_readPipe 9 = .ok (.aload_n 0, 1) := by decide +kernel
theorem dX7_readPipe_10 : decode cX7_readPipe 10 = .ok (.iload_n 1, 1) := by decide +kernel
theorem dX7_readPipe_11 : decode cX7_readPipe 11 = .ok (.invokevirtual 74, 3) := by decide +kernel
theorem dX7_readPipe_14 : decode cX7_readPipe 14 = .ok (.goto 8, 3) := by decide +kernel
theorem dX7_readPipe_17 : decode cX7_readPipe 17 = .ok (.aload_n 0, 1) := by decide +kernel
theorem dX7_readPipe_18 : decode cX7_readPipe 18 = .ok (.iconst 1, 1) := by decide +kernel
theorem dX7_readPipe_19 : decode cX7_readPipe 19 = .ok (.invokevirtual 78, 3) := by decide +kernel
theorem dX7_readPipe_22 : decode cX7_readPipe 22 = .ok (.astore_n 2, 1) := by decide +kernel
theorem dX7_readPipe_23 : decode cX7_readPipe 23 = .ok (.aload_n 2, 1) := by decide +kernel
theorem dX7_readPipe_24 : decode cX7_readPipe 24 = .ok (.ifnonnull 5, 3) := by decide +kernel
theorem dX7_readPipe_27 : decode cX7_readPipe 27 = .ok (.aconst_null, 1) := by decide +kernel
theorem dX7_readPipe_28 : decode cX7_readPipe 28 = .ok (.areturn, 1) := by decide +kernel
theorem dX7_readPipe_29 : decode cX7_readPipe 29 = .ok (.new 56, 3) := by decide +kernel
theorem dX7_readPipe_32 : decode cX7_readPipe 32 = .ok (.dup, 1) := by decide +kernel
theorem dX7_readPipe_33 : decode cX7_readPipe 33 = .ok (.aload_n 2, 1) := by decide +kernel
theorem dX7_readPipe_34 : decode cX7_readPipe 34 = .ok (.invokespecial 82, 3) := by decide +kernel
theorem dX7_readPipe_37 : decode cX7_readPipe 37 = .ok (.astore_n 3, 1) := by decide +kernel
theorem dX7_readPipe_38 : decode cX7_readPipe 38 = .ok (.iconst 1, 1) := by decide +kernel
theorem dX7_readPipe_39 : decode cX7_readPipe 39 = .ok (.istore 4, 2) := by decide +kernel
theorem dX7_readPipe_41 : decode cX7_readPipe 41 = .ok (.iload 4, 2) := by decide +kernel
theorem dX7_readPipe_43 : decode cX7_readPipe 43 = .ok (.bipush 6, 2) := by decide +kernel
theorem dX7_readPipe_45 : decode cX7_readPipe 45 = .ok (.if_icmp .ge 49, 3) := by decide +kernel
theorem dX7_readPipe_48 : decode cX7_readPipe 48 = .ok (.aload_n 0, 1) := by decide +kernel
theorem dX7_readPipe_49 : decode cX7_readPipe 49 = .ok (.bipush 124, 2) := by decide +kernel
theorem dX7_readPipe_51 : decode cX7_readPipe 51 = .ok (.invokevirtual 85, 3) := by decide +kernel
theorem dX7_readPipe_54 : decode cX7_readPipe 54 = .ok (.ifCond .eq 40, 3) := by decide +kernel
theorem dX7_readPipe_57 : decode cX7_readPipe 57 = .ok (.aload_n 0, 1) := by decide +kernel
theorem dX7_readPipe_58 : decode cX7_readPipe 58 = .ok (.iconst 0, 1) := by decide +kernel
theorem dX7_readPipe_59 : decode cX7_readPipe 59 = .ok (.invokevirtual 78, 3) := by decide +kernel
theorem dX7_readPipe_62 : decode cX7_readPipe 62 = .ok (.astore 5, 2) := by decide +kernel
theorem dX7_readPipe_64 : decode cX7_readPipe 64 = .ok (.aload 5, 2) := by decide +kernel
theorem dX7_readPipe_66 : decode cX7_readPipe 66 = .ok (.ifnonnull 5, 3) := by decide +kernel
theorem dX7_readPipe_69 : decode cX7_readPipe 69 = .ok (.aconst_null, 1) := by decide +kernel
theorem dX7_readPipe_70 : decode cX7_readPipe 70 = .ok (.areturn, 1) := by decide +kernel
theorem dX7_readPipe_71 : decode cX7_readPipe 71 = .ok (.aload_n 3, 1) := by decide +kernel
theorem dX7_readPipe_72 : decode cX7_readPipe 72 = .ok (.getfield 88, 3) := by decide +kernel
theorem dX7_readPipe_75 : decode cX7_readPipe 75 = .ok (.iload 4, 2) := by decide +kernel
theorem dX7_readPipe_77 : decode cX7_readPipe 77 = .ok (.aload 5, 2) := by decide +kernel
theorem dX7_readPipe_79 : decode cX7_readPipe 79 = .ok (.aastore, 1) := by decide +kernel
theorem dX7_readPipe_80 : decode cX7_readPipe 80 = .ok (.aload_n 3, 1) := by decide +kernel
theorem dX7_readPipe_81 : decode cX7_readPipe 81 = .ok (.iload 4, 2) := by decide +kernel
theorem dX7_readPipe_83 : decode cX7_readPipe 83 = .ok (.iconst 1, 1) := by decide +kernel
theorem dX7_readPipe_84 : decode cX7_readPipe 84 = .ok (.iadd, 1) := by decide +kernel
theorem dX7_readPipe_85 : decode cX7_readPipe 85 = .ok (.putfield 91, 3) := by decide +kernel
theorem dX7_readPipe_88 : decode cX7_readPipe 88 = .ok (.iinc 4 1, 3) := by decide +kernel
theorem dX7_readPipe_91 : decode cX7_readPipe 91 = .ok (.goto (-50), 3) := by decide +kernel
theorem dX7_readPipe_94 : decode cX7_readPipe 94 = .ok (.aload_n 3, 1) := by decide +kernel
theorem dX7_readPipe_95 : decode cX7_readPipe 95 = .ok (.areturn, 1) := by decide +kernel
theorem dX7_readBraces_0 : decode cX7_readBraces 0 = .ok (.iload_n 1, 1) := by decide +kernel
theorem dX7_readBraces_1 : decode cX7_readBraces 1 = .ok (.iconst 3, 1) := by decide +kernel
theorem dX7_readBraces_2 : decode cX7_readBraces 2 = .ok (.if_icmp .lt 14, 3) := by decide +kernel
theorem dX7_readBraces_5 : decode cX7_readBraces 5 = .ok (.aload_n 0, 1) := by decide +kernel
theorem dX7_readBraces_6 : decode cX7_readBraces 6 = .ok (.aload_n 0, 1) := by decide +kernel
theorem dX7_readBraces_7 : decode cX7_readBraces 7 = .ok (.getfield 29, 3) := by decide +kernel
theorem dX7_readBraces_10 : decode cX7_readBraces 10 = .ok (.invokevirtual 42, 3) := by decide +kernel
theorem dX7_readBraces_13 : decode cX7_readBraces 13 = .ok (.pop, 1) := by decide +kernel
theorem dX7_readBraces_14 : decode cX7_readBraces 14 = .ok (.aconst_null, 1) := by decide +kernel
theorem dX7_readBraces_15 : decode cX7_readBraces 15 = .ok (.areturn, 1) := by decide +kernel
theorem dX7_readBraces_16 : decode cX7_readBraces 16 = .ok (.aload_n 0, 1) := by decide +kernel
theorem dX7_readBraces_17 : decode cX7_readBraces 17 = .ok (.dup, 1) := by decide +kernel
theorem dX7_readBraces_18 : decode cX7_readBraces 18 = .ok (.getfield 29, 3) := by decide +kernel
theorem dX7_readBraces_21 : decode cX7_readBraces 21 = .ok (.iconst 1, 1) := by decide +kernel
theorem dX7_readBraces_22 : decode cX7_readBraces 22 = .ok (.iadd, 1) := by decide +kernel
theorem dX7_readBraces_23 : decode cX7_readBraces 23 = .ok (.putfield 29, 3) := by decide +kernel
theorem dX7_readBraces_26 : decode cX7_readBraces 26 = .ok (.aload_n 0, 1) := by decide +kernel
theorem dX7_readBraces_27 : decode cX7_readBraces 27 = .ok (.dup, 1) := by decide +kernel
theorem dX7_readBraces_28 : decode cX7_readBraces 28 = .ok (.getfield 32, 3) := by decide +kernel
theorem dX7_readBraces_31 : decode cX7_readBraces 31 = .ok (.iconst 1, 1) := by decide +kernel
theorem dX7_readBraces_32 : decode cX7_readBraces 32 = .ok (.iadd, 1) := by decide +kernel
theorem dX7_readBraces_33 : decode cX7_readBraces 33 = .ok (.putfield 32, 3) := by decide +kernel
theorem dX7_readBraces_36 : decode cX7_readBraces 36 = .ok (.aload_n 0, 1) := by decide +kernel
theorem dX7_readBraces_37 : decode cX7_readBraces 37 = .ok (.aload_n 0, 1) := by decide +kernel
theorem dX7_readBraces_38 : decode cX7_readBraces 38 = .ok (.getfield 35, 3) := by decide +kernel
theorem dX7_readBraces_41 : decode cX7_readBraces 41 = .ok (.iload_n 1, 1) := by decide +kernel
theorem dX7_readBraces_42 : decode cX7_readBraces 42 = .ok (.iconst 1, 1) := by decide +kernel
theorem dX7_readBraces_43 : decode cX7_readBraces 43 = .ok (.iadd, 1) := by decide +kernel
theorem dX7_readBraces_44 : decode cX7_readBraces 44 = .ok (.invokestatic 94, 3) := by decide +kernel
theorem dX7_readBraces_47 : decode cX7_readBraces 47 = .ok (.putfield 35, 3) := by decide +kernel
theorem dX7_readBraces_50 : decode cX7_readBraces 50 = .ok (.new 100, 3) := by decide +kernel
theorem dX7_readBraces_53 : decode cX7_readBraces 53 = .ok (.dup, 1) := by decide +kernel
theorem dX7_readBraces_54 : decode cX7_readBraces 54 = .ok (.getstatic 102, 3) := by decide +kernel
theorem dX7_readBraces_57 : decode cX7_readBraces 57 = .ok (.invokespecial 106, 3) := by decide +kernel
theorem dX7_readBraces_60 : decode cX7_readBraces 60 = .ok (.astore_n 2, 1) := by decide +kernel
theorem dX7_readBraces_61 : decode cX7_readBraces 61 = .ok (.aload_n 2, 1) := by decide +kernel
theorem dX7_readBraces_62 : decode cX7_readBraces 62 = .ok (.aload_n 0, 1) := by decide +kernel
theorem dX7_readBraces_63 : decode cX7_readBraces 63 = .ok (.iload_n 1, 1) := by decide +kernel
theorem dX7_readBraces_64 : decode cX7_readBraces 64 = .ok (.iconst 1, 1) := by decide +kernel
theorem dX7_readBraces_65 : decode cX7_readBraces 65 = .ok (.iadd, 1) := by decide +kernel
theorem dX7_readBraces_66 : decode cX7_readBraces 66 = .ok (.invokevirtual 38, 3) := by decide +kernel
theorem dX7_readBraces_69 : decode cX7_readBraces 69 = .ok (.putfield 109, 3) := by decide +kernel
theorem dX7_readBraces_72 : decode cX7_readBraces 72 = .ok (.aload_n 2, 1) := by decide +kernel
theorem dX7_readBraces_73 : decode cX7_readBraces 73 = .ok (.getfield 109, 3) := by decide +kernel
theorem dX7_readBraces_76 : decode cX7_readBraces 76 = .ok (.ifnull 16, 3) := by decide +kernel
theorem dX7_readBraces_79 : decode cX7_readBraces 79 = .ok (.aload_n 0, 1) := by decide +kernel
theorem dX7_readBraces_80 : decode cX7_readBraces 80 = .ok (.bipush 125, 2) := by decide +kernel
theorem dX7_readBraces_82 : decode cX7_readBraces 82 = .ok (.invokevirtual 112, 3) := by decide +kernel
theorem dX7_readBraces_85 : decode cX7_readBraces 85 = .ok (.ifCond .eq 7, 3) := by decide +kernel
theorem dX7_readBraces_88 : decode cX7_readBraces 88 = .ok (.aload_n 2, 1) := by decide +kernel
theorem dX7_readBraces_89 : decode cX7_readBraces 89 = .ok (.goto 4, 3) := by decide +kernel
theorem dX7_readBraces_92 : decode cX7_readBraces 92 = .ok (.aconst_null, 1) := by decide +kernel
theorem dX7_readBraces_93 : decode cX7_readBraces 93 = .ok (.areturn, 1) := by decide +kernel
theorem dX7_readCommand_0 : decode cX7_readCommand 0 = .ok (.aload_n 0, 1) := by decide +kernel
theorem dX7_readCommand_1 : decode cX7_readCommand 1 = .ok (.iload_n 1, 1) := by decide +kernel
theorem dX7_readCommand_2 : decode cX7_readCommand 2 = .ok (.invokevirtual 115, 3) := by decide +kernel
theorem dX7_readCommand_5 : decode cX7_readCommand 5 = .ok (.astore_n 2, 1) := by decide +kernel
theorem dX7_readCommand_6 : decode cX7_readCommand 6 = .ok (.aload_n 2, 1) := by decide +kernel
theorem dX7_readCommand_7 : decode cX7_readCommand 7 = .ok (.ifnonnull 5, 3) := by decide +kernel
theorem dX7_readCommand_10 : decode cX7_readCommand 10 = .ok (.aconst_null, 1) := by decide +kernel
theorem dX7_readCommand_11 : decode cX7_readCommand 11 = .ok (.areturn, 1) := by decide +kernel
theorem dX7_readCommand_12 : decode cX7_readCommand 12 = .ok (.aload_n 0, 1) := by decide +kernel
theorem dX7_readCommand_13 : decode cX7_readCommand 13 = .ok (.dup, 1) := by decide +kernel
theorem dX7_readCommand_14 : decode cX7_readCommand 14 = .ok (.getfield 32, 3) := by decide +kernel
theorem dX7_readCommand_17 : decode cX7_readCommand 17 = .ok (.iconst 1, 1) := by decide +kernel
theorem dX7_readCommand_18 : decode cX7_readCommand 18 = .ok (.iadd, 1) := by decide +kernel
theorem dX7_readCommand_19 : decode cX7_readCommand 19 = .ok (.putfield 32, 3) := by decide +kernel
theorem dX7_readCommand_22 : decode cX7_readCommand 22 = .ok (.new 100, 3) := by decide +kernel
theorem dX7_readCommand_25 : decode cX7_readCommand 25 = .ok (.dup, 1) := by decide +kernel
theorem dX7_readCommand_26 : decode cX7_readCommand 26 = .ok (.aload_n 2, 1) := by decide +kernel
theorem dX7_readCommand_27 : decode cX7_readCommand 27 = .ok (.invokespecial 106, 3) := by decide +kernel
theorem dX7_readCommand_30 : decode cX7_readCommand 30 = .ok (.astore_n 3, 1) := by decide +kernel
theorem dX7_readCommand_31 : decode cX7_readCommand 31 = .ok (.iconst 0, 1) := by decide +kernel
theorem dX7_readCommand_32 : decode cX7_readCommand 32 = .ok (.istore 4, 2) := by decide +kernel
theorem dX7_readCommand_34 : decode cX7_readCommand 34 = .ok (.iload 4, 2) := by decide +kernel
theorem dX7_readCommand_36 : decode cX7_readCommand 36 = .ok (.aload_n 2, 1) := by decide +kernel
theorem dX7_readCommand_37 : decode cX7_readCommand 37 = .ok (.getfield 119, 3) := by decide +kernel
theorem dX7_readCommand_40 : decode cX7_readCommand 40 = .ok (.if_icmp .ge 93, 3) := by decide +kernel
theorem dX7_readCommand_43 : decode cX7_readCommand 43 = .ok (.iload 4, 2) := by decide +kernel
theorem dX7_readCommand_45 : decode cX7_readCommand 45 = .ok (.iconst 4, 1) := by decide +kernel
theorem dX7_readCommand_46 : decode cX7_readCommand 46 = .ok (.if_icmp .ge 87, 3) := by decide +kernel
theorem dX7_readCommand_49 : decode cX7_readCommand 49 = .ok (.iload 4, 2) := by decide +kernel
theorem dX7_readCommand_51 : decode cX7_readCommand 51 = .ok (.aload_n 2, 1) := by decide +kernel
theorem dX7_readCommand_52 : decode cX7_readCommand 52 = .ok (.getfield 122, 3) := by decide +kernel
theorem dX7_readCommand_55 : decode cX7_readCommand 55 = .ok (.if_icmp .lt 14, 3) := by decide +kernel
theorem dX7_readCommand_58 : decode cX7_readCommand 58 = .ok (.aload_n 0, 1) := by decide +kernel
theorem dX7_readCommand_59 : decode cX7_readCommand 59 = .ok (.invokevirtual 64, 3) := by decide +kernel
theorem dX7_readCommand_62 : decode cX7_readCommand 62 = .ok (.bipush 32, 2) := by decide +kernel
theorem dX7_readCommand_64 : decode cX7_readCommand 64 = .ok (.if_icmp .eq 5, 3) := by decide +kernel
theorem dX7_readCommand_67 : decode cX7_readCommand 67 = .ok (.aload_n 3, 1) := by decide +kernel
theorem dX7_readCommand_68 : decode cX7_readCommand 68 = .ok (.areturn, 1) := by decide +kernel
theorem dX7_readCommand_69 : decode cX7_readCommand 69 = .ok (.aload_n 0, 1) := by decide +kernel
theorem dX7_readCommand_70 : decode cX7_readCommand 70 = .ok (.bipush 32, 2) := by decide +kernel
theorem dX7_readCommand_72 : decode cX7_readCommand 72 = .ok (.invokevirtual 112, 3) := by decide +kernel
theorem dX7_readCommand_75 : decode cX7_readCommand 75 = .ok (.ifCond .ne 5, 3) := by decide +kernel
theorem dX7_readCommand_78 : decode cX7_readCommand 78 = .ok (.aconst_null, 1) := by decide +kernel
theorem dX7_readCommand_79 : decode cX7_readCommand 79 = .ok (.areturn, 1) := by decide +kernel
theorem dX7_readCommand_80 : decode cX7_readCommand 80 = .ok (.aload_n 3, 1) := by decide +kernel
theorem dX7_readCommand_81 : decode cX7_readCommand 81 = .ok (.getfield 125, 3) := by decide +kernel
theorem dX7_readCommand_84 : decode cX7_readCommand 84 = .ok (.iload 4, 2) := by decide +kernel
theorem dX7_readCommand_86 : decode cX7_readCommand 86 = .ok (.aload_n 2, 1) := by decide +kernel
theorem dX7_readCommand_87 : decode cX7_readCommand 87 = .ok (.getstatic 129, 3) := by decide +kernel
theorem dX7_readCommand_90 : decode cX7_readCommand 90 = .ok (.if_acmp .ne 10, 3) := by decide +kernel
theorem dX7_readCommand_93 : decode cX7_readCommand 93 = .ok (.aload_n 0, 1) := by decide +kernel
theorem dX7_readCommand_94 : decode cX7_readCommand 94 = .ok (.invokevirtual 132, 3) := by decide +kernel
theorem dX7_readCommand_97 : decode cX7_readCommand 97 = .ok (.goto 7, 3) := by decide +kernel
theorem dX7_readCommand_100 : decode cX7_readCommand 100 = .ok (.aload_n 0, 1) := by decide +kernel
theorem dX7_readCommand_101 : decode cX7_readCommand 101 = .ok (.invokevirtual 135, 3) := by decide +kernel
theorem dX7_readCommand_104 : decode cX7_readCommand 104 = .ok (.iastore, 1) := by decide +kernel
theorem dX7_readCommand_105 : decode cX7_readCommand 105 = .ok (.aload_n 3, 1) := by decide +kernel
theorem dX7_readCommand_106 : decode cX7_readCommand 106 = .ok (.iload 4, 2) := by decide +kernel
theorem dX7_readCommand_108 : decode cX7_readCommand 108 = .ok (.iconst 1, 1) := by decide +kernel
theorem dX7_readCommand_109 : decode cX7_readCommand 109 = .ok (.iadd, 1) := by decide +kernel
theorem dX7_readCommand_110 : decode cX7_readCommand 110 = .ok (.putfield 138, 3) := by decide +kernel
theorem dX7_readCommand_113 : decode cX7_readCommand 113 = .ok (.aload_n 3, 1) := by decide +kernel
theorem dX7_readCommand_114 : decode cX7_readCommand 114 = .ok (.getfield 125, 3) := by decide +kernel
theorem dX7_readCommand_117 : decode cX7_readCommand 117 = .ok (.iload 4, 2) := by decide +kernel
theorem dX7_readCommand_119 : decode cX7_readCommand 119 = .ok (.iaload, 1) := by decide +kernel
theorem dX7_readCommand_120 : decode cX7_readCommand 120 = .ok (.bipush (-7), 2) := by decide +kernel
theorem dX7_readCommand_122 : decode cX7_readCommand 122 = .ok (.if_icmp .ne 5, 3) := by decide +kernel
theorem dX7_readCommand_125 : decode cX7_readCommand 125 = .ok (.aconst_null, 1) := by decide +kernel
theorem dX7_readCommand_126 : decode cX7_readCommand 126 = .ok (.areturn, 1) := by decide +kernel
theorem dX7_readCommand_127 : decode cX7_readCommand 127 = .ok (.iinc 4 1, 3) := by decide +kernel
theorem dX7_readCommand_130 : decode cX7_readCommand 130 = .ok (.goto (-96), 3) := by decide +kernel
theorem dX7_readCommand_133 : decode cX7_readCommand 133 = .ok (.aload_n 3, 1) := by decide +kernel
theorem dX7_readCommand_134 : decode cX7_readCommand 134 = .ok (.areturn, 1) := by decide +kernel
theorem dX7_readWord_0 : decode cX7_readWord 0 = .ok (.aload_n 0, 1) := by decide +kernel
theorem dX7_readWord_1 : decode cX7_readWord 1 = .ok (.getfield 29, 3) := by decide +kernel
theorem dX7_readWord_4 : decode cX7_readWord 4 = .ok (.istore_n 2, 1) := by decide +kernel
theorem dX7_readWord_5 : decode cX7_readWord 5 = .ok (.aload_n 0, 1) := by decide +kernel
theorem dX7_readWord_6 : decode cX7_readWord 6 = .ok (.getfield 29, 3) := by decide +kernel
theorem dX7_readWord_9 : decode cX7_readWord 9 = .ok (.istore_n 3, 1) := by decide +kernel
theorem dX7_readWord_10 : decode cX7_readWord 10 = .ok (.iload_n 3, 1) := by decide +kernel
theorem dX7_readWord_11 : decode cX7_readWord 11 = .ok (.aload_n 0, 1) := by decide +kernel
theorem dX7_readWord_12 : decode cX7_readWord 12 = .ok (.getfield 25, 3) := by decide +kernel
theorem dX7_readWord_15 : decode cX7_readWord 15 = .ok (.if_icmp .ge 25, 3) := by decide +kernel
theorem dX7_readWord_18 : decode cX7_readWord 18 = .ok (.aload_n 0, 1) := by decide +kernel
theorem dX7_readWord_19 : decode cX7_readWord 19 = .ok (.getfield 21, 3) := by decide +kernel
theorem dX7_readWord_22 : decode cX7_readWord 22 = .ok (.iload_n 3, 1) := by decide +kernel
theorem dX7_readWord_23 : decode cX7_readWord 23 = .ok (.baload, 1) := by decide +kernel
theorem dX7_readWord_24 : decode cX7_readWord 24 = .ok (.invokestatic 141, 3) := by decide +kernel
theorem dX7_readWord_27 : decode cX7_readWord 27 = .ok (.ifCond .eq 13, 3) := by decide +kernel
theorem dX7_readWord_30 : decode cX7_readWord 30 = .ok (.iload_n 3, 1) := by decide +kernel
theorem dX7_readWord_31 : decode cX7_readWord 31 = .ok (.iconst 1, 1) := by decide +kernel
theorem dX7_readWord_32 : decode cX7_readWord 32 = .ok (.iadd, 1) := by decide +kernel
theorem dX7_readWord_33 : decode cX7_readWord 33 = .ok (.istore_n 2, 1) := by decide +kernel
theorem dX7_readWord_34 : decode cX7_readWord 34 = .ok (.iinc 3 1, 3) := by decide +kernel
theorem dX7_readWord_37 : decode cX7_readWord 37 = .ok (.goto (-27), 3) := by decide +kernel
theorem dX7_readWord_40 : decode cX7_readWord 40 = .ok (.aload_n 0, 1) := by decide +kernel
theorem dX7_readWord_41 : decode cX7_readWord 41 = .ok (.iload_n 2, 1) := by decide +kernel
theorem dX7_readWord_42 : decode cX7_readWord 42 = .ok (.invokevirtual 144, 3) := by decide +kernel
theorem dX7_readWord_45 : decode cX7_readWord 45 = .ok (.astore_n 3, 1) := by decide +kernel
theorem dX7_readWord_46 : decode cX7_readWord 46 = .ok (.aload_n 3, 1) := by decide +kernel
theorem dX7_readWord_47 : decode cX7_readWord 47 = .ok (.ifnull 14, 3) := by decide +kernel
theorem dX7_readWord_50 : decode cX7_readWord 50 = .ok (.iload_n 1, 1) := by decide +kernel
theorem dX7_readWord_51 : decode cX7_readWord 51 = .ok (.ifCond .ne 21, 3) := by decide +kernel
theorem dX7_readWord_54 : decode cX7_readWord 54 = .ok (.aload_n 3, 1) := by decide +kernel
theorem dX7_readWord_55 : decode cX7_readWord 55 = .ok (.getfield 148, 3) := by decide +kernel
theorem dX7_readWord_58 : decode cX7_readWord 58 = .ok (.ifCond .lt 14, 3) := by decide +kernel
theorem dX7_readWord_61 : decode cX7_readWord 61 = .ok (.aload_n 0, 1) := by decide +kernel
theorem dX7_readWord_62 : decode cX7_readWord 62 = .ok (.aload_n 0, 1) := by decide +kernel
theorem dX7_readWord_63 : decode cX7_readWord 63 = .ok (.getfield 29, 3) := by decide +kernel
theorem dX7_readWord_66 : decode cX7_readWord 66 = .ok (.invokevirtual 42, 3) := by decide +kernel
theorem dX7_readWord_69 : decode cX7_readWord 69 = .ok (.pop, 1) := by decide +kernel
theorem dX7_readWord_70 : decode cX7_readWord 70 = .ok (.aconst_null, 1) := by decide +kernel
theorem dX7_readWord_71 : decode cX7_readWord 71 = .ok (.areturn, 1) := by decide +kernel
theorem dX7_readWord_72 : decode cX7_readWord 72 = .ok (.aload_n 0, 1) := by decide +kernel
theorem dX7_readWord_73 : decode cX7_readWord 73 = .ok (.iload_n 2, 1) := by decide +kernel
theorem dX7_readWord_74 : decode cX7_readWord 74 = .ok (.putfield 29, 3) := by decide +kernel
theorem dX7_readWord_77 : decode cX7_readWord 77 = .ok (.aload_n 3, 1) := by decide +kernel
theorem dX7_readWord_78 : decode cX7_readWord 78 = .ok (.areturn, 1) := by decide +kernel
theorem dX7_wordAt_0 : decode cX7_wordAt 0 = .ok (.iconst 0, 1) := by decide +kernel
theorem dX7_wordAt_1 : decode cX7_wordAt 1 = .ok (.istore_n 2, 1) := by decide +kernel
theorem dX7_wordAt_2 : decode cX7_wordAt 2 = .ok (.iload_n 2, 1) := by decide +kernel
theorem dX7_wordAt_3 : decode cX7_wordAt 3 = .ok (.aload_n 0, 1) := by decide +kernel
theorem dX7_wordAt_4 : decode cX7_wordAt 4 = .ok (.getfield 15, 3) := by decide +kernel
theorem dX7_wordAt_7 : decode cX7_wordAt 7 = .ok (.arraylength, 1) := by decide +kernel
theorem dX7_wordAt_8 : decode cX7_wordAt 8 = .ok (.if_icmp .ge 116, 3) := by decide +kernel
theorem dX7_wordAt_11 : decode cX7_wordAt 11 = .ok (.aload_n 0, 1) := by decide +kernel
theorem dX7_wordAt_12 : decode cX7_wordAt 12 = .ok (.getfield 15, 3) := by decide +kernel
theorem dX7_wordAt_15 : decode cX7_wordAt 15 = .ok (.iload_n 2, 1) := by decide +kernel
theorem dX7_wordAt_16 : decode cX7_wordAt 16 = .ok (.aaload, 1) := by decide +kernel
theorem dX7_wordAt_17 : decode cX7_wordAt 17 = .ok (.getfield 151, 3) := by decide +kernel
theorem dX7_wordAt_20 : decode cX7_wordAt 20 = .ok (.astore_n 3, 1) := by decide +kernel
theorem dX7_wordAt_21 : decode cX7_wordAt 21 = .ok (.aload_n 3, 1) := by decide +kernel
theorem dX7_wordAt_22 : decode cX7_wordAt 22 = .ok (.invokevirtual 154, 3) := by decide +kernel
theorem dX7_wordAt_25 : decode cX7_wordAt 25 = .ok (.iload_n 1, 1) := by decide +kernel
theorem dX7_wordAt_26 : decode cX7_wordAt 26 = .ok (.aload_n 0, 1) := by decide +kernel
theorem dX7_wordAt_27 : decode cX7_wordAt 27 = .ok (.getfield 29, 3) := by decide +kernel
theorem dX7_wordAt_30 : decode cX7_wordAt 30 = .ok (.isub, 1) := by decide +kernel
theorem dX7_wordAt_31 : decode cX7_wordAt 31 = .ok (.if_icmp .ne 7, 3) := by decide +kernel
theorem dX7_wordAt_34 : decode cX7_wordAt 34 = .ok (.iconst 1, 1) := by decide +kernel
theorem dX7_wordAt_35 : decode cX7_wordAt 35 = .ok (.goto 4, 3) := by decide +kernel
theorem dX7_wordAt_38 : decode cX7_wordAt 38 = .ok (.iconst 0, 1) := by decide +kernel
theorem dX7_wordAt_39 : decode cX7_wordAt 39 = .ok (.istore 4, 2) := by decide +kernel
theorem dX7_wordAt_41 : decode cX7_wordAt 41 = .ok (.iconst 0, 1) := by decide +kernel
theorem dX7_wordAt_42 : decode cX7_wordAt 42 = .ok (.istore 5, 2) := by decide +kernel
theorem dX7_wordAt_44 : decode cX7_wordAt 44 = .ok (.iload 4, 2) := by decide +kernel
theorem dX7_wordAt_46 : decode cX7_wordAt 46 = .ok (.ifCond .eq 60, 3) := by decide +kernel
theorem dX7_wordAt_49 : decode cX7_wordAt 49 = .ok (.iload 5, 2) := by decide +kernel
theorem dX7_wordAt_51 : decode cX7_wordAt 51 = .ok (.aload_n 3, 1) := by decide +kernel
theorem dX7_wordAt_52 : decode cX7_wordAt 52 = .ok (.invokevirtual 154, 3) := by decide +kernel
theorem dX7_wordAt_55 : decode cX7_wordAt 55 = .ok (.if_icmp .ge 51, 3) := by decide +kernel
theorem dX7_wordAt_58 : decode cX7_wordAt 58 = .ok (.aload_n 0, 1) := by decide +kernel
theorem dX7_wordAt_59 : decode cX7_wordAt 59 = .ok (.getfield 29, 3) := by decide +kernel
theorem dX7_wordAt_62 : decode cX7_wordAt 62 = .ok (.iload 5, 2) := by decide +kernel
theorem dX7_wordAt_64 : decode cX7_wordAt 64 = .ok (.iadd, 1) := by decide +kernel
theorem dX7_wordAt_65 : decode cX7_wordAt 65 = .ok (.aload_n 0, 1) := by decide +kernel
theorem dX7_wordAt_66 : decode cX7_wordAt 66 = .ok (.getfield 25, 3) := by decide +kernel
theorem dX7_wordAt_69 : decode cX7_wordAt 69 = .ok (.if_icmp .ge 37, 3) := by decide +kernel
theorem dX7_wordAt_72 : decode cX7_wordAt 72 = .ok (.aload_n 0, 1) := by decide +kernel
theorem dX7_wordAt_73 : decode cX7_wordAt 73 = .ok (.getfield 21, 3) := by decide +kernel
theorem dX7_wordAt_76 : decode cX7_wordAt 76 = .ok (.aload_n 0, 1) := by decide +kernel
theorem dX7_wordAt_77 : decode cX7_wordAt 77 = .ok (.getfield 29, 3) := by decide +kernel
theorem dX7_wordAt_80 : decode cX7_wordAt 80 = .ok (.iload 5, 2) := by decide +kernel
theorem dX7_wordAt_82 : decode cX7_wordAt 82 = .ok (.iadd, 1) := by decide +kernel
theorem dX7_wordAt_83 : decode cX7_wordAt 83 = .ok (.baload, 1) := by decide +kernel
theorem dX7_wordAt_84 : decode cX7_wordAt 84 = .ok (.aload_n 3, 1) := by decide +kernel
theorem dX7_wordAt_85 : decode cX7_wordAt 85 = .ok (.iload 5, 2) := by decide +kernel
theorem dX7_wordAt_87 : decode cX7_wordAt 87 = .ok (.invokevirtual 158, 3) := by decide +kernel
theorem dX7_wordAt_90 : decode cX7_wordAt 90 = .ok (.if_icmp .ne 7, 3) := by decide +kernel
theorem dX7_wordAt_93 : decode cX7_wordAt 93 = .ok (.iconst 1, 1) := by decide +kernel
theorem dX7_wordAt_94 : decode cX7_wordAt 94 = .ok (.goto 4, 3) := by decide +kernel
theorem dX7_wordAt_97 : decode cX7_wordAt 97 = .ok (.iconst 0, 1) := by decide +kernel
theorem dX7_wordAt_98 : decode cX7_wordAt 98 = .ok (.istore 4, 2) := by decide +kernel
theorem dX7_wordAt_100 : decode cX7_wordAt 100 = .ok (.iinc 5 1, 3) := by decide +kernel
theorem dX7_wordAt_103 : decode cX7_wordAt 103 = .ok (.goto (-59), 3) := by decide +kernel
theorem dX7_wordAt_106 : decode cX7_wordAt 106 = .ok (.iload 4, 2) := by decide +kernel
theorem dX7_wordAt_108 : decode cX7_wordAt 108 = .ok (.ifCond .eq 10, 3) := by decide +kernel
theorem dX7_wordAt_111 : decode cX7_wordAt 111 = .ok (.aload_n 0, 1) := by decide +kernel
theorem dX7_wordAt_112 : decode cX7_wordAt 112 = .ok (.getfield 15, 3) := by decide +kernel
theorem dX7_wordAt_115 : decode cX7_wordAt 115 = .ok (.iload_n 2, 1) := by decide +kernel
theorem dX7_wordAt_116 : decode cX7_wordAt 116 = .ok (.aaload, 1) := by decide +kernel
theorem dX7_wordAt_117 : decode cX7_wordAt 117 = .ok (.areturn, 1) := by decide +kernel
theorem dX7_wordAt_118 : decode cX7_wordAt 118 = .ok (.iinc 2 1, 3) := by decide +kernel
theorem dX7_wordAt_121 : decode cX7_wordAt 121 = .ok (.goto (-119), 3) := by decide +kernel
theorem dX7_wordAt_124 : decode cX7_wordAt 124 = .ok (.aconst_null, 1) := by decide +kernel
theorem dX7_wordAt_125 : decode cX7_wordAt 125 = .ok (.areturn, 1) := by decide +kernel
theorem dX7_readTerm_0 : decode cX7_readTerm 0 = .ok (.aload_n 0, 1) := by decide +kernel
theorem dX7_readTerm_1 : decode cX7_readTerm 1 = .ok (.bipush 36, 2) := by decide +kernel
theorem dX7_readTerm_3 : decode cX7_readTerm 3 = .ok (.invokevirtual 85, 3) := by decide +kernel
theorem dX7_readTerm_6 : decode cX7_readTerm 6 = .ok (.ifCond .eq 22, 3) := by decide +kernel
theorem dX7_readTerm_9 : decode cX7_readTerm 9 = .ok (.aload_n 0, 1) := by decide +kernel
theorem dX7_readTerm_10 : decode cX7_readTerm 10 = .ok (.bipush 112, 2) := by decide +kernel
theorem dX7_readTerm_12 : decode cX7_readTerm 12 = .ok (.invokevirtual 85, 3) := by decide +kernel
theorem dX7_readTerm_15 : decode cX7_readTerm 15 = .ok (.ifCond .eq 8, 3) := by decide +kernel
theorem dX7_readTerm_18 : decode cX7_readTerm 18 = .ok (.bipush (-6), 2) := by decide +kernel
theorem dX7_readTerm_20 : decode cX7_readTerm 20 = .ok (.goto 7, 3) := by decide +kernel
theorem dX7_readTerm_23 : decode cX7_readTerm 23 = .ok (.aload_n 0, 1) := by decide +kernel
theorem dX7_readTerm_24 : decode cX7_readTerm 24 = .ok (.invokevirtual 132, 3) := by decide +kernel
theorem dX7_readTerm_27 : decode cX7_readTerm 27 = .ok (.ireturn, 1) := by decide +kernel
theorem dX7_readTerm_28 : decode cX7_readTerm 28 = .ok (.bipush (-7), 2) := by decide +kernel
theorem dX7_readTerm_30 : decode cX7_readTerm 30 = .ok (.istore_n 1, 1) := by decide +kernel
theorem dX7_readTerm_31 : decode cX7_readTerm 31 = .ok (.iconst 0, 1) := by decide +kernel
theorem dX7_readTerm_32 : decode cX7_readTerm 32 = .ok (.istore_n 2, 1) := by decide +kernel
theorem dX7_readTerm_33 : decode cX7_readTerm 33 = .ok (.iload_n 2, 1) := by decide +kernel
theorem dX7_readTerm_34 : decode cX7_readTerm 34 = .ok (.iconst 3, 1) := by decide +kernel
theorem dX7_readTerm_35 : decode cX7_readTerm 35 = .ok (.if_icmp .ge 46, 3) := by decide +kernel
theorem dX7_readTerm_38 : decode cX7_readTerm 38 = .ok (.aload_n 0, 1) := by decide +kernel
theorem dX7_readTerm_39 : decode cX7_readTerm 39 = .ok (.invokevirtual 64, 3) := by decide +kernel
theorem dX7_readTerm_42 : decode cX7_readTerm 42 = .ok (.invokestatic 162, 3) := by decide +kernel
theorem dX7_readTerm_45 : decode cX7_readTerm 45 = .ok (.ifCond .eq 36, 3) := by decide +kernel
theorem dX7_readTerm_48 : decode cX7_readTerm 48 = .ok (.iload_n 1, 1) := by decide +kernel
theorem dX7_readTerm_49 : decode cX7_readTerm 49 = .ok (.iconst 0, 1) := by decide +kernel
theorem dX7_readTerm_50 : decode cX7_readTerm 50 = .ok (.invokestatic 94, 3) := by decide +kernel
theorem dX7_readTerm_53 : decode cX7_readTerm 53 = .ok (.bipush 10, 2) := by decide +kernel
theorem dX7_readTerm_55 : decode cX7_readTerm 55 = .ok (.imul, 1) := by decide +kernel
theorem dX7_readTerm_56 : decode cX7_readTerm 56 = .ok (.aload_n 0, 1) := by decide +kernel
theorem dX7_readTerm_57 : decode cX7_readTerm 57 = .ok (.invokevirtual 64, 3) := by decide +kernel
theorem dX7_readTerm_60 : decode cX7_readTerm 60 = .ok (.iadd, 1) := by decide +kernel
theorem dX7_readTerm_61 : decode cX7_readTerm 61 = .ok (.bipush 48, 2) := by decide +kernel
theorem dX7_readTerm_63 : decode cX7_readTerm 63 = .ok (.isub, 1) := by decide +kernel
theorem dX7_readTerm_64 : decode cX7_readTerm 64 = .ok (.istore_n 1, 1) := by decide +kernel
theorem dX7_readTerm_65 : decode cX7_readTerm 65 = .ok (.aload_n 0, 1) := by decide +kernel
theorem dX7_readTerm_66 : decode cX7_readTerm 66 = .ok (.dup, 1) := by decide +kernel
theorem dX7_readTerm_67 : decode cX7_readTerm 67 = .ok (.getfield 29, 3) := by decide +kernel
theorem dX7_readTerm_70 : decode cX7_readTerm 70 = .ok (.iconst 1, 1) := by decide +kernel
theorem dX7_readTerm_71 : decode cX7_readTerm 71 = .ok (.iadd, 1) := by decide +kernel
theorem dX7_readTerm_72 : decode cX7_readTerm 72 = .ok (.putfield 29, 3) := by decide +kernel
theorem dX7_readTerm_75 : decode cX7_readTerm 75 = .ok (.iinc 2 1, 3) := by decide +kernel
theorem dX7_readTerm_78 : decode cX7_readTerm 78 = .ok (.goto (-45), 3) := by decide +kernel
theorem dX7_readTerm_81 : decode cX7_readTerm 81 = .ok (.iload_n 1, 1) := by decide +kernel
theorem dX7_readTerm_82 : decode cX7_readTerm 82 = .ok (.bipush (-7), 2) := by decide +kernel
theorem dX7_readTerm_84 : decode cX7_readTerm 84 = .ok (.if_icmp .ne 12, 3) := by decide +kernel
theorem dX7_readTerm_87 : decode cX7_readTerm 87 = .ok (.aload_n 0, 1) := by decide +kernel
theorem dX7_readTerm_88 : decode cX7_readTerm 88 = .ok (.aload_n 0, 1) := by decide +kernel
theorem dX7_readTerm_89 : decode cX7_readTerm 89 = .ok (.getfield 29, 3) := by decide +kernel
theorem dX7_readTerm_92 : decode cX7_readTerm 92 = .ok (.invokevirtual 42, 3) := by decide +kernel
theorem dX7_readTerm_95 : decode cX7_readTerm 95 = .ok (.pop, 1) := by decide +kernel
theorem dX7_readTerm_96 : decode cX7_readTerm 96 = .ok (.iload_n 1, 1) := by decide +kernel
theorem dX7_readTerm_97 : decode cX7_readTerm 97 = .ok (.ireturn, 1) := by decide +kernel
theorem dX7_readName_0 : decode cX7_readName 0 = .ok (.aload_n 0, 1) := by decide +kernel
theorem dX7_readName_1 : decode cX7_readName 1 = .ok (.invokevirtual 64, 3) := by decide +kernel
theorem dX7_readName_4 : decode cX7_readName 4 = .ok (.bipush 97, 2) := by decide +kernel
theorem dX7_readName_6 : decode cX7_readName 6 = .ok (.isub, 1) := by decide +kernel
theorem dX7_readName_7 : decode cX7_readName 7 = .ok (.istore_n 1, 1) := by decide +kernel
theorem dX7_readName_8 : decode cX7_readName 8 = .ok (.iload_n 1, 1) := by decide +kernel
theorem dX7_readName_9 : decode cX7_readName 9 = .ok (.invokestatic 165, 3) := by decide +kernel
theorem dX7_readName_12 : decode cX7_readName 12 = .ok (.ifCond .ne 15, 3) := by decide +kernel
theorem dX7_readName_15 : decode cX7_readName 15 = .ok (.aload_n 0, 1) := by decide +kernel
theorem dX7_readName_16 : decode cX7_readName 16 = .ok (.aload_n 0, 1) := by decide +kernel
theorem dX7_readName_17 : decode cX7_readName 17 = .ok (.getfield 29, 3) := by decide +kernel
theorem dX7_readName_20 : decode cX7_readName 20 = .ok (.invokevirtual 42, 3) := by decide +kernel
theorem dX7_readName_23 : decode cX7_readName 23 = .ok (.pop, 1) := by decide +kernel
theorem dX7_readName_24 : decode cX7_readName 24 = .ok (.bipush (-7), 2) := by decide +kernel
theorem dX7_readName_26 : decode cX7_readName 26 = .ok (.ireturn, 1) := by decide +kernel
theorem dX7_readName_27 : decode cX7_readName 27 = .ok (.aload_n 0, 1) := by decide +kernel
theorem dX7_readName_28 : decode cX7_readName 28 = .ok (.dup, 1) := by decide +kernel
theorem dX7_readName_29 : decode cX7_readName 29 = .ok (.getfield 29, 3) := by decide +kernel
theorem dX7_readName_32 : decode cX7_readName 32 = .ok (.iconst 1, 1) := by decide +kernel
theorem dX7_readName_33 : decode cX7_readName 33 = .ok (.iadd, 1) := by decide +kernel
theorem dX7_readName_34 : decode cX7_readName 34 = .ok (.putfield 29, 3) := by decide +kernel
theorem dX7_readName_37 : decode cX7_readName 37 = .ok (.iconst (-1), 1) := by decide +kernel
theorem dX7_readName_38 : decode cX7_readName 38 = .ok (.iload_n 1, 1) := by decide +kernel
theorem dX7_readName_39 : decode cX7_readName 39 = .ok (.isub, 1) := by decide +kernel
theorem dX7_readName_40 : decode cX7_readName 40 = .ok (.ireturn, 1) := by decide +kernel
theorem dX7_peek_0 : decode cX7_peek 0 = .ok (.aload_n 0, 1) := by decide +kernel
theorem dX7_peek_1 : decode cX7_peek 1 = .ok (.getfield 29, 3) := by decide +kernel
theorem dX7_peek_4 : decode cX7_peek 4 = .ok (.aload_n 0, 1) := by decide +kernel
theorem dX7_peek_5 : decode cX7_peek 5 = .ok (.getfield 25, 3) := by decide +kernel
theorem dX7_peek_8 : decode cX7_peek 8 = .ok (.if_icmp .ge 24, 3) := by decide +kernel
theorem dX7_peek_11 : decode cX7_peek 11 = .ok (.aload_n 0, 1) := by decide +kernel
theorem dX7_peek_12 : decode cX7_peek 12 = .ok (.getfield 29, 3) := by decide +kernel
theorem dX7_peek_15 : decode cX7_peek 15 = .ok (.bipush 100, 2) := by decide +kernel
theorem dX7_peek_17 : decode cX7_peek 17 = .ok (.if_icmp .ge 15, 3) := by decide +kernel
theorem dX7_peek_20 : decode cX7_peek 20 = .ok (.aload_n 0, 1) := by decide +kernel
theorem dX7_peek_21 : decode cX7_peek 21 = .ok (.getfield 21, 3) := by decide +kernel
theorem dX7_peek_24 : decode cX7_peek 24 = .ok (.aload_n 0, 1) := by decide +kernel
theorem dX7_peek_25 : decode cX7_peek 25 = .ok (.getfield 29, 3) := by decide +kernel
theorem dX7_peek_28 : decode cX7_peek 28 = .ok (.baload, 1) := by decide +kernel
theorem dX7_peek_29 : decode cX7_peek 29 = .ok (.goto 4, 3) := by decide +kernel
theorem dX7_peek_32 : decode cX7_peek 32 = .ok (.iconst (-1), 1) := by decide +kernel
theorem dX7_peek_33 : decode cX7_peek 33 = .ok (.ireturn, 1) := by decide +kernel
theorem dX7_takes_0 : decode cX7_takes 0 = .ok (.aload_n 0, 1) := by decide +kernel
theorem dX7_takes_1 : decode cX7_takes 1 = .ok (.invokevirtual 64, 3) := by decide +kernel
theorem dX7_takes_4 : decode cX7_takes 4 = .ok (.iload_n 1, 1) := by decide +kernel
theorem dX7_takes_5 : decode cX7_takes 5 = .ok (.if_icmp .eq 5, 3) := by decide +kernel
theorem dX7_takes_8 : decode cX7_takes 8 = .ok (.iconst 0, 1) := by decide +kernel
theorem dX7_takes_9 : decode cX7_takes 9 = .ok (.ireturn, 1) := by decide +kernel
theorem dX7_takes_10 : decode cX7_takes 10 = .ok (.aload_n 0, 1) := by decide +kernel
theorem dX7_takes_11 : decode cX7_takes 11 = .ok (.dup, 1) := by decide +kernel
theorem dX7_takes_12 : decode cX7_takes 12 = .ok (.getfield 29, 3) := by decide +kernel
theorem dX7_takes_15 : decode cX7_takes 15 = .ok (.iconst 1, 1) := by decide +kernel
theorem dX7_takes_16 : decode cX7_takes 16 = .ok (.iadd, 1) := by decide +kernel
theorem dX7_takes_17 : decode cX7_takes 17 = .ok (.putfield 29, 3) := by decide +kernel
theorem dX7_takes_20 : decode cX7_takes 20 = .ok (.iconst 1, 1) := by decide +kernel
theorem dX7_takes_21 : decode cX7_takes 21 = .ok (.ireturn, 1) := by decide +kernel
theorem dX7_takesOrFaults_0 : decode cX7_takesOrFaults 0 = .ok (.aload_n 0, 1) := by decide +kernel
theorem dX7_takesOrFaults_1 : decode cX7_takesOrFaults 1 = .ok (.iload_n 1, 1) := by decide +kernel
theorem dX7_takesOrFaults_2 : decode cX7_takesOrFaults 2 = .ok (.invokevirtual 85, 3) := by decide +kernel
theorem dX7_takesOrFaults_5 : decode cX7_takesOrFaults 5 = .ok (.ifCond .ne 14, 3) := by decide +kernel
theorem dX7_takesOrFaults_8 : decode cX7_takesOrFaults 8 = .ok (.aload_n 0, 1) := by decide +kernel
theorem dX7_takesOrFaults_9 : decode cX7_takesOrFaults 9 = .ok (.aload_n 0, 1) := by decide +kernel
theorem dX7_takesOrFaults_10 : decode cX7_takesOrFaults 10 = .ok (.getfield 29, 3) := by decide +kernel
theorem dX7_takesOrFaults_13 : decode cX7_takesOrFaults 13 = .ok (.invokevirtual 42, 3) := by decide +kernel
theorem dX7_takesOrFaults_16 : decode cX7_takesOrFaults 16 = .ok (.ifCond .eq 7, 3) := by decide +kernel
theorem dX7_takesOrFaults_19 : decode cX7_takesOrFaults 19 = .ok (.iconst 1, 1) := by decide +kernel
theorem dX7_takesOrFaults_20 : decode cX7_takesOrFaults 20 = .ok (.goto 4, 3) := by decide +kernel
theorem dX7_takesOrFaults_23 : decode cX7_takesOrFaults 23 = .ok (.iconst 0, 1) := by decide +kernel
theorem dX7_takesOrFaults_24 : decode cX7_takesOrFaults 24 = .ok (.ireturn, 1) := by decide +kernel
theorem dX7_faultAt_0 : decode cX7_faultAt 0 = .ok (.aload_n 0, 1) := by decide +kernel
theorem dX7_faultAt_1 : decode cX7_faultAt 1 = .ok (.iload_n 1, 1) := by decide +kernel
theorem dX7_faultAt_2 : decode cX7_faultAt 2 = .ok (.putfield 168, 3) := by decide +kernel
theorem dX7_faultAt_5 : decode cX7_faultAt 5 = .ok (.iconst 0, 1) := by decide +kernel
theorem dX7_faultAt_6 : decode cX7_faultAt 6 = .ok (.ireturn, 1) := by decide +kernel
theorem dX7_isJoin_0 : decode cX7_isJoin 0 = .ok (.iload_n 0, 1) := by decide +kernel
theorem dX7_isJoin_1 : decode cX7_isJoin 1 = .ok (.bipush 59, 2) := by decide +kernel
theorem dX7_isJoin_3 : decode cX7_isJoin 3 = .ok (.if_icmp .eq 15, 3) := by decide +kernel
theorem dX7_isJoin_6 : decode cX7_isJoin 6 = .ok (.iload_n 0, 1) := by decide +kernel
theorem dX7_isJoin_7 : decode cX7_isJoin 7 = .ok (.bipush 38, 2) := by decide +kernel
theorem dX7_isJoin_9 : decode cX7_isJoin 9 = .ok (.if_icmp .eq 9, 3) := by decide +kernel
theorem dX7_isJoin_12 : decode cX7_isJoin 12 = .ok (.iload_n 0, 1) := by decide +kernel
theorem dX7_isJoin_13 : decode cX7_isJoin 13 = .ok (.bipush 47, 2) := by decide +kernel
theorem dX7_isJoin_15 : decode cX7_isJoin 15 = .ok (.if_icmp .ne 7, 3) := by decide +kernel
theorem dX7_isJoin_18 : decode cX7_isJoin 18 = .ok (.iconst 1, 1) := by decide +kernel
theorem dX7_isJoin_19 : decode cX7_isJoin 19 = .ok (.goto 4, 3) := by decide +kernel
theorem dX7_isJoin_22 : decode cX7_isJoin 22 = .ok (.iconst 0, 1) := by decide +kernel
theorem dX7_isJoin_23 : decode cX7_isJoin 23 = .ok (.ireturn, 1) := by decide +kernel
theorem dX7_isLetter_0 : decode cX7_isLetter 0 = .ok (.iload_n 0, 1) := by decide +kernel
theorem dX7_isLetter_1 : decode cX7_isLetter 1 = .ok (.bipush 97, 2) := by decide +kernel
theorem dX7_isLetter_3 : decode cX7_isLetter 3 = .ok (.if_icmp .lt 13, 3) := by decide +kernel
theorem dX7_isLetter_6 : decode cX7_isLetter 6 = .ok (.iload_n 0, 1) := by decide +kernel
theorem dX7_isLetter_7 : decode cX7_isLetter 7 = .ok (.bipush 122, 2) := by decide +kernel
theorem dX7_isLetter_9 : decode cX7_isLetter 9 = .ok (.if_icmp .gt 7, 3) := by decide +kernel
theorem dX7_isLetter_12 : decode cX7_isLetter 12 = .ok (.iconst 1, 1) := by decide +kernel
theorem dX7_isLetter_13 : decode cX7_isLetter 13 = .ok (.goto 4, 3) := by decide +kernel
theorem dX7_isLetter_16 : decode cX7_isLetter 16 = .ok (.iconst 0, 1) := by decide +kernel
theorem dX7_isLetter_17 : decode cX7_isLetter 17 = .ok (.ireturn, 1) := by decide +kernel
theorem dX7_isDigit_0 : decode cX7_isDigit 0 = .ok (.iload_n 0, 1) := by decide +kernel
theorem dX7_isDigit_1 : decode cX7_isDigit 1 = .ok (.bipush 48, 2) := by decide +kernel
theorem dX7_isDigit_3 : decode cX7_isDigit 3 = .ok (.if_icmp .lt 13, 3) := by decide +kernel
theorem dX7_isDigit_6 : decode cX7_isDigit 6 = .ok (.iload_n 0, 1) := by decide +kernel
theorem dX7_isDigit_7 : decode cX7_isDigit 7 = .ok (.bipush 57, 2) := by decide +kernel
theorem dX7_isDigit_9 : decode cX7_isDigit 9 = .ok (.if_icmp .gt 7, 3) := by decide +kernel
theorem dX7_isDigit_12 : decode cX7_isDigit 12 = .ok (.iconst 1, 1) := by decide +kernel
theorem dX7_isDigit_13 : decode cX7_isDigit 13 = .ok (.goto 4, 3) := by decide +kernel
theorem dX7_isDigit_16 : decode cX7_isDigit 16 = .ok (.iconst 0, 1) := by decide +kernel
theorem dX7_isDigit_17 : decode cX7_isDigit 17 = .ok (.ireturn, 1) := by decide +kernel
theorem dX8_init_0 : decode cX8_init 0 = .ok (.aload_n 0, 1) := by decide +kernel
theorem dX8_init_1 : decode cX8_init 1 = .ok (.invokespecial 3, 3) := by decide +kernel
theorem dX8_init_4 : decode cX8_init 4 = .ok (.aload_n 0, 1) := by decide +kernel
theorem dX8_init_5 : decode cX8_init 5 = .ok (.iload_n 1, 1) := by decide +kernel
theorem dX8_init_6 : decode cX8_init 6 = .ok (.newarray .int, 2) := by decide +kernel
theorem dX8_init_8 : decode cX8_init 8 = .ok (.putfield 9, 3) := by decide +kernel
theorem dX8_init_11 : decode cX8_init 11 = .ok (.aload_n 0, 1) := by decide +kernel
theorem dX8_init_12 : decode cX8_init 12 = .ok (.iload_n 1, 1) := by decide +kernel
theorem dX8_init_13 : decode cX8_init 13 = .ok (.newarray .int, 2) := by decide +kernel
theorem dX8_init_15 : decode cX8_init 15 = .ok (.putfield 15, 3) := by decide +kernel
theorem dX8_init_18 : decode cX8_init 18 = .ok (.return_, 1) := by decide +kernel
theorem dX8_add_0 : decode cX8_add 0 = .ok (.aload_n 0, 1) := by decide +kernel
theorem dX8_add_1 : decode cX8_add 1 = .ok (.getfield 18, 3) := by decide +kernel
theorem dX8_add_4 : decode cX8_add 4 = .ok (.aload_n 0, 1) := by decide +kernel
theorem dX8_add_5 : decode cX8_add 5 = .ok (.getfield 9, 3) := by decide +kernel
theorem dX8_add_8 : decode cX8_add 8 = .ok (.arraylength, 1) := by decide +kernel
theorem dX8_add_9 : decode cX8_add 9 = .ok (.if_icmp .lt 6, 3) := by decide +kernel
theorem dX8_add_12 : decode cX8_add 12 = .ok (.bipush (-4), 2) := by decide +kernel
theorem dX8_add_14 : decode cX8_add 14 = .ok (.ireturn, 1) := by decide +kernel
theorem dX8_add_15 : decode cX8_add 15 = .ok (.aload_n 0, 1) := by decide +kernel
theorem dX8_add_16 : decode cX8_add 16 = .ok (.getfield 9, 3) := by decide +kernel
theorem dX8_add_19 : decode cX8_add 19 = .ok (.aload_n 0, 1) := by decide +kernel
theorem dX8_add_20 : decode cX8_add 20 = .ok (.getfield 18, 3) := by decide +kernel
theorem dX8_add_23 : decode cX8_add 23 = .ok (.iload_n 1, 1) := by decide +kernel
theorem dX8_add_24 : decode cX8_add 24 = .ok (.iastore, 1) := by decide +kernel
theorem dX8_add_25 : decode cX8_add 25 = .ok (.aload_n 0, 1) := by decide +kernel
theorem dX8_add_26 : decode cX8_add 26 = .ok (.getfield 15, 3) := by decide +kernel
theorem dX8_add_29 : decode cX8_add 29 = .ok (.aload_n 0, 1) := by decide +kernel
theorem dX8_add_30 : decode cX8_add 30 = .ok (.getfield 18, 3) := by decide +kernel
theorem dX8_add_33 : decode cX8_add 33 = .ok (.iload_n 2, 1) := by decide +kernel
theorem dX8_add_34 : decode cX8_add 34 = .ok (.iastore, 1) := by decide +kernel
theorem dX8_add_35 : decode cX8_add 35 = .ok (.aload_n 0, 1) := by decide +kernel
theorem dX8_add_36 : decode cX8_add 36 = .ok (.dup, 1) := by decide +kernel
theorem dX8_add_37 : decode cX8_add 37 = .ok (.getfield 18, 3) := by decide +kernel
theorem dX8_add_40 : decode cX8_add 40 = .ok (.iconst 1, 1) := by decide +kernel
theorem dX8_add_41 : decode cX8_add 41 = .ok (.iadd, 1) := by decide +kernel
theorem dX8_add_42 : decode cX8_add 42 = .ok (.putfield 18, 3) := by decide +kernel
theorem dX8_add_45 : decode cX8_add 45 = .ok (.aload_n 0, 1) := by decide +kernel
theorem dX8_add_46 : decode cX8_add 46 = .ok (.getfield 18, 3) := by decide +kernel
theorem dX8_add_49 : decode cX8_add 49 = .ok (.ireturn, 1) := by decide +kernel
theorem dX8_clear_0 : decode cX8_clear 0 = .ok (.aload_n 0, 1) := by decide +kernel
theorem dX8_clear_1 : decode cX8_clear 1 = .ok (.iconst 0, 1) := by decide +kernel
theorem dX8_clear_2 : decode cX8_clear 2 = .ok (.putfield 18, 3) := by decide +kernel
theorem dX8_clear_5 : decode cX8_clear 5 = .ok (.iconst 0, 1) := by decide +kernel
theorem dX8_clear_6 : decode cX8_clear 6 = .ok (.ireturn, 1) := by decide +kernel
theorem dX8_copyFrom_0 : decode cX8_copyFrom 0 = .ok (.aload_n 1, 1) := by decide +kernel
theorem dX8_copyFrom_1 : decode cX8_copyFrom 1 = .ok (.getfield 9, 3) := by decide +kernel
theorem dX8_copyFrom_4 : decode cX8_copyFrom 4 = .ok (.iconst 0, 1) := by decide +kernel
theorem dX8_copyFrom_5 : decode cX8_copyFrom 5 = .ok (.aload_n 0, 1) := by decide +kernel
theorem dX8_copyFrom_6 : decode cX8_copyFrom 6 = .ok (.getfield 9, 3) := by decide +kernel
theorem dX8_copyFrom_9 : decode cX8_copyFrom 9 = .ok (.iconst 0, 1) := by decide +kernel
theorem dX8_copyFrom_10 : decode cX8_copyFrom 10 = .ok (.aload_n 1, 1) := by decide +kernel
theorem dX8_copyFrom_11 : decode cX8_copyFrom 11 = .ok (.getfield 18, 3) := by decide +kernel
theorem dX8_copyFrom_14 : decode cX8_copyFrom 14 = .ok (.invokestatic 22, 3) := by decide +kernel
theorem dX8_copyFrom_17 : decode cX8_copyFrom 17 = .ok (.aload_n 1, 1) := by decide +kernel
theorem dX8_copyFrom_18 : decode cX8_copyFrom 18 = .ok (.getfield 15, 3) := by decide +kernel
theorem dX8_copyFrom_21 : decode cX8_copyFrom 21 = .ok (.iconst 0, 1) := by decide +kernel
theorem dX8_copyFrom_22 : decode cX8_copyFrom 22 = .ok (.aload_n 0, 1) := by decide +kernel
theorem dX8_copyFrom_23 : decode cX8_copyFrom 23 = .ok (.getfield 15, 3) := by decide +kernel
theorem dX8_copyFrom_26 : decode cX8_copyFrom 26 = .ok (.iconst 0, 1) := by decide +kernel
theorem dX8_copyFrom_27 : decode cX8_copyFrom 27 = .ok (.aload_n 1, 1) := by decide +kernel
theorem dX8_copyFrom_28 : decode cX8_copyFrom 28 = .ok (.getfield 18, 3) := by decide +kernel
theorem dX8_copyFrom_31 : decode cX8_copyFrom 31 = .ok (.invokestatic 22, 3) := by decide +kernel
theorem dX8_copyFrom_34 : decode cX8_copyFrom 34 = .ok (.aload_n 0, 1) := by decide +kernel
theorem dX8_copyFrom_35 : decode cX8_copyFrom 35 = .ok (.aload_n 1, 1) := by decide +kernel
theorem dX8_copyFrom_36 : decode cX8_copyFrom 36 = .ok (.getfield 18, 3) := by decide +kernel
theorem dX8_copyFrom_39 : decode cX8_copyFrom 39 = .ok (.putfield 18, 3) := by decide +kernel
theorem dX8_copyFrom_42 : decode cX8_copyFrom 42 = .ok (.return_, 1) := by decide +kernel
theorem dX9_init_0 : decode cX9_init 0 = .ok (.aload_n 0, 1) := by decide +kernel
theorem dX9_init_1 : decode cX9_init 1 = .ok (.invokespecial 3, 3) := by decide +kernel
theorem dX9_init_4 : decode cX9_init 4 = .ok (.aload_n 0, 1) := by decide +kernel
theorem dX9_init_5 : decode cX9_init 5 = .ok (.iconst 4, 1) := by decide +kernel
theorem dX9_init_6 : decode cX9_init 6 = .ok (.newarray .int, 2) := by decide +kernel
theorem dX9_init_8 : decode cX9_init 8 = .ok (.putfield 9, 3) := by decide +kernel
theorem dX9_init_11 : decode cX9_init 11 = .ok (.aload_n 0, 1) := by decide +kernel
theorem dX9_init_12 : decode cX9_init 12 = .ok (.aload_n 1, 1) := by decide +kernel
theorem dX9_init_13 : decode cX9_init 13 = .ok (.putfield 15, 3) := by decide +kernel
theorem dX9_init_16 : decode cX9_init 16 = .ok (.return_, 1) := by decide +kernel
theorem dX9_hasList_0 : decode cX9_hasList 0 = .ok (.aload_n 0, 1) := by decide +kernel
theorem dX9_hasList_1 : decode cX9_hasList 1 = .ok (.getfield 15, 3) := by decide +kernel
theorem dX9_hasList_4 : decode cX9_hasList 4 = .ok (.getstatic 19, 3) := by decide +kernel
theorem dX9_hasList_7 : decode cX9_hasList 7 = .ok (.if_acmp .eq 13, 3) := by decide +kernel
theorem dX9_hasList_10 : decode cX9_hasList 10 = .ok (.aload_n 0, 1) := by decide +kernel
theorem dX9_hasList_11 : decode cX9_hasList 11 = .ok (.getfield 15, 3) := by decide +kernel
theorem dX9_hasList_14 : decode cX9_hasList 14 = .ok (.getfield 24, 3) := by decide +kernel
theorem dX9_hasList_17 : decode cX9_hasList 17 = .ok (.ifCond .lt 7, 3) := by decide +kernel
theorem dX9_hasList_20 : decode cX9_hasList 20 = .ok (.iconst 1, 1) := by decide +kernel
theorem dX9_hasList_21 : decode cX9_hasList 21 = .ok (.goto 4, 3) := by decide +kernel
theorem dX9_hasList_24 : decode cX9_hasList 24 = .ok (.iconst 0, 1) := by decide +kernel
theorem dX9_hasList_25 : decode cX9_hasList 25 = .ok (.ireturn, 1) := by decide +kernel
theorem dX10_init_0 : decode cX10_init 0 = .ok (.aload_n 0, 1) := by decide +kernel
theorem dX10_init_1 : decode cX10_init 1 = .ok (.invokespecial 3, 3) := by decide +kernel
theorem dX10_init_4 : decode cX10_init 4 = .ok (.aload_n 0, 1) := by decide +kernel
theorem dX10_init_5 : decode cX10_init 5 = .ok (.iconst (-1), 1) := by decide +kernel
theorem dX10_init_6 : decode cX10_init 6 = .ok (.putfield 9, 3) := by decide +kernel
theorem dX10_init_9 : decode cX10_init 9 = .ok (.aload_n 0, 1) := by decide +kernel
theorem dX10_init_10 : decode cX10_init 10 = .ok (.bipush 60, 2) := by decide +kernel
theorem dX10_init_12 : decode cX10_init 12 = .ok (.newarray .long, 2) := by decide +kernel
theorem dX10_init_14 : decode cX10_init 14 = .ok (.putfield 15, 3) := by decide +kernel
theorem dX10_init_17 : decode cX10_init 17 = .ok (.return_, 1) := by decide +kernel
theorem dX10_become_0 : decode cX10_become 0 = .ok (.aload_n 0, 1) := by decide +kernel
theorem dX10_become_1 : decode cX10_become 1 = .ok (.iload_n 1, 1) := by decide +kernel
theorem dX10_become_2 : decode cX10_become 2 = .ok (.putfield 9, 3) := by decide +kernel
theorem dX10_become_5 : decode cX10_become 5 = .ok (.aload_n 0, 1) := by decide +kernel
theorem dX10_become_6 : decode cX10_become 6 = .ok (.iload_n 2, 1) := by decide +kernel
theorem dX10_become_7 : decode cX10_become 7 = .ok (.putfield 19, 3) := by decide +kernel
theorem dX10_become_10 : decode cX10_become 10 = .ok (.iconst 0, 1) := by decide +kernel
theorem dX10_become_11 : decode cX10_become 11 = .ok (.istore_n 3, 1) := by decide +kernel
theorem dX10_become_12 : decode cX10_become 12 = .ok (.iload_n 3, 1) := by decide +kernel
theorem dX10_become_13 : decode cX10_become 13 = .ok (.bipush 60, 2) := by decide +kernel
theorem dX10_become_15 : decode cX10_become 15 = .ok (.if_icmp .ge 16, 3) := by decide +kernel
theorem dX10_become_18 : decode cX10_become 18 = .ok (.aload_n 0, 1) := by decide +kernel
theorem dX10_become_19 : decode cX10_become 19 = .ok (.getfield 15, 3) := by decide +kernel
theorem dX10_become_22 : decode cX10_become 22 = .ok (.iload_n 3, 1) := by decide +kernel
theorem dX10_become_23 : decode cX10_become 23 = .ok (.lconst 0, 1) := by decide +kernel
theorem dX10_become_24 : decode cX10_become 24 = .ok (.lastore, 1) := by decide +kernel
theorem dX10_become_25 : decode cX10_become 25 = .ok (.iinc 3 1, 3) := by decide +kernel
theorem dX10_become_28 : decode cX10_become 28 = .ok (.goto (-16), 3) := by decide +kernel
theorem dX10_become_31 : decode cX10_become 31 = .ok (.iconst 1, 1) := by decide +kernel
theorem dX10_become_32 : decode cX10_become 32 = .ok (.ireturn, 1) := by decide +kernel
theorem dX10_held_0 : decode cX10_held 0 = .ok (.aload_n 0, 1) := by decide +kernel
theorem dX10_held_1 : decode cX10_held 1 = .ok (.getfield 9, 3) := by decide +kernel
theorem dX10_held_4 : decode cX10_held 4 = .ok (.tableswitch 62 0 4 #[36, 41, 46, 62, 50], 36) := by decide +kernel
theorem dX10_held_40 : decode cX10_held 40 = .ok (.lload_n 1, 1) := by decide +kernel
theorem dX10_held_41 : decode cX10_held 41 = .ok (.l2i, 1) := by decide +kernel
theorem dX10_held_42 : decode cX10_held 42 = .ok (.i2b, 1) := by decide +kernel
theorem dX10_held_43 : decode cX10_held 43 = .ok (.i2l, 1) := by decide +kernel
theorem dX10_held_44 : decode cX10_held 44 = .ok (.lreturn, 1) := by decide +kernel
theorem dX10_held_45 : decode cX10_held 45 = .ok (.lload_n 1, 1) := by decide +kernel
theorem dX10_held_46 : decode cX10_held 46 = .ok (.l2i, 1) := by decide +kernel
theorem dX10_held_47 : decode cX10_held 47 = .ok (.i2s, 1) := by decide +kernel
theorem dX10_held_48 : decode cX10_held 48 = .ok (.i2l, 1) := by decide +kernel
theorem dX10_held_49 : decode cX10_held 49 = .ok (.lreturn, 1) := by decide +kernel
theorem dX10_held_50 : decode cX10_held 50 = .ok (.lload_n 1, 1) := by decide +kernel
theorem dX10_held_51 : decode cX10_held 51 = .ok (.l2i, 1) := by decide +kernel
theorem dX10_held_52 : decode cX10_held 52 = .ok (.i2l, 1) := by decide +kernel
theorem dX10_held_53 : decode cX10_held 53 = .ok (.lreturn, 1) := by decide +kernel
theorem dX10_held_54 : decode cX10_held 54 = .ok (.lload_n 1, 1) := by decide +kernel
theorem dX10_held_55 : decode cX10_held 55 = .ok (.lconst 0, 1) := by decide +kernel
theorem dX10_held_56 : decode cX10_held 56 = .ok (.lcmp, 1) := by decide +kernel
theorem dX10_held_57 : decode cX10_held 57 = .ok (.ifCond .eq 7, 3) := by decide +kernel
theorem dX10_held_60 : decode cX10_held 60 = .ok (.lconst 1, 1) := by decide +kernel
theorem dX10_held_61 : decode cX10_held 61 = .ok (.goto 4, 3) := by decide +kernel
theorem dX10_held_64 : decode cX10_held 64 = .ok (.lconst 0, 1) := by decide +kernel
theorem dX10_held_65 : decode cX10_held 65 = .ok (.lreturn, 1) := by decide +kernel
theorem dX10_held_66 : decode cX10_held 66 = .ok (.lload_n 1, 1) := by decide +kernel
theorem dX10_held_67 : decode cX10_held 67 = .ok (.lreturn, 1) := by decide +kernel
theorem dX10_has_0 : decode cX10_has 0 = .ok (.iload_n 1, 1) := by decide +kernel
theorem dX10_has_1 : decode cX10_has 1 = .ok (.ifCond .lt 29, 3) := by decide +kernel
theorem dX10_has_4 : decode cX10_has 4 = .ok (.iload_n 2, 1) := by decide +kernel
theorem dX10_has_5 : decode cX10_has 5 = .ok (.ifCond .lt 25, 3) := by decide +kernel
theorem dX10_has_8 : decode cX10_has 8 = .ok (.iload_n 1, 1) := by decide +kernel
theorem dX10_has_9 : decode cX10_has 9 = .ok (.aload_n 0, 1) := by decide +kernel
theorem dX10_has_10 : decode cX10_has 10 = .ok (.getfield 19, 3) := by decide +kernel
theorem dX10_has_13 : decode cX10_has 13 = .ok (.if_icmp .gt 17, 3) := by decide +kernel
theorem dX10_has_16 : decode cX10_has 16 = .ok (.iload_n 2, 1) := by decide +kernel
theorem dX10_has_17 : decode cX10_has 17 = .ok (.aload_n 0, 1) := by decide +kernel
theorem dX10_has_18 : decode cX10_has 18 = .ok (.getfield 19, 3) := by decide +kernel
theorem dX10_has_21 : decode cX10_has 21 = .ok (.iload_n 1, 1) := by decide +kernel
theorem dX10_has_22 : decode cX10_has 22 = .ok (.isub, 1) := by decide +kernel
theorem dX10_has_23 : decode cX10_has 23 = .ok (.if_icmp .gt 7, 3) := by decide +kernel
theorem dX10_has_26 : decode cX10_has 26 = .ok (.iconst 1, 1) := by decide +kernel
theorem dX10_has_27 : decode cX10_has 27 = .ok (.goto 4, 3) := by decide +kernel
theorem dX10_has_30 : decode cX10_has 30 = .ok (.iconst 0, 1) := by decide +kernel
theorem dX10_has_31 : decode cX10_has 31 = .ok (.ireturn, 1) := by decide +kernel
theorem dX11_values_0 : decode cX11_values 0 = .ok (.getstatic 51, 3) := by decide +kernel
theorem dX11_values_3 : decode cX11_values 3 = .ok (.invokevirtual 55, 3) := by decide +kernel
theorem dX11_values_6 : decode cX11_values 6 = .ok (.checkcast 56, 3) := by decide +kernel
theorem dX11_values_9 : decode cX11_values 9 = .ok (.areturn, 1) := by decide +kernel
theorem dX12_init_0 : decode cX12_init 0 = .ok (.aload_n 0, 1) := by decide +kernel
theorem dX12_init_1 : decode cX12_init 1 = .ok (.invokespecial 5, 3) := by decide +kernel
theorem dX12_init_4 : decode cX12_init 4 = .ok (.aload_n 0, 1) := by decide +kernel
theorem dX12_init_5 : decode cX12_init 5 = .ok (.new 11, 3) := by decide +kernel
theorem dX12_init_8 : decode cX12_init 8 = .ok (.dup, 1) := by decide +kernel
theorem dX12_init_9 : decode cX12_init 9 = .ok (.invokespecial 13, 3) := by decide +kernel
theorem dX12_init_12 : decode cX12_init 12 = .ok (.putfield 14, 3) := by decide +kernel
theorem dX12_init_15 : decode cX12_init 15 = .ok (.aload_n 0, 1) := by decide +kernel
theorem dX12_init_16 : decode cX12_init 16 = .ok (.new 18, 3) := by decide +kernel
theorem dX12_init_19 : decode cX12_init 19 = .ok (.dup, 1) := by decide +kernel
theorem dX12_init_20 : decode cX12_init 20 = .ok (.invokespecial 20, 3) := by decide +kernel
theorem dX12_init_23 : decode cX12_init 23 = .ok (.putfield 21, 3) := by decide +kernel
theorem dX12_init_26 : decode cX12_init 26 = .ok (.aload_n 0, 1) := by decide +kernel
theorem dX12_init_27 : decode cX12_init 27 = .ok (.new 25, 3) := by decide +kernel
theorem dX12_init_30 : decode cX12_init 30 = .ok (.dup, 1) := by decide +kernel
theorem dX12_init_31 : decode cX12_init 31 = .ok (.invokespecial 27, 3) := by decide +kernel
theorem dX12_init_34 : decode cX12_init 34 = .ok (.putfield 28, 3) := by decide +kernel
theorem dX12_init_37 : decode cX12_init 37 = .ok (.aload_n 0, 1) := by decide +kernel
theorem dX12_init_38 : decode cX12_init 38 = .ok (.new 25, 3) := by decide +kernel
theorem dX12_init_41 : decode cX12_init 41 = .ok (.dup, 1) := by decide +kernel
theorem dX12_init_42 : decode cX12_init 42 = .ok (.invokespecial 27, 3) := by decide +kernel
theorem dX12_init_45 : decode cX12_init 45 = .ok (.putfield 32, 3) := by decide +kernel
theorem dX12_init_48 : decode cX12_init 48 = .ok (.aload_n 0, 1) := by decide +kernel
theorem dX12_init_49 : decode cX12_init 49 = .ok (.new 25, 3) := by decide +kernel
theorem dX12_init_52 : decode cX12_init 52 = .ok (.dup, 1) := by decide +kernel
theorem dX12_init_53 : decode cX12_init 53 = .ok (.invokespecial 27, 3) := by decide +kernel
theorem dX12_init_56 : decode cX12_init 56 = .ok (.putfield 35, 3) := by decide +kernel
theorem dX12_init_59 : decode cX12_init 59 = .ok (.aload_n 0, 1) := by decide +kernel
theorem dX12_init_60 : decode cX12_init 60 = .ok (.new 25, 3) := by decide +kernel
theorem dX12_init_63 : decode cX12_init 63 = .ok (.dup, 1) := by decide +kernel
theorem dX12_init_64 : decode cX12_init 64 = .ok (.invokespecial 27, 3) := by decide +kernel
theorem dX12_init_67 : decode cX12_init 67 = .ok (.putfield 38, 3) := by decide +kernel
theorem dX12_init_70 : decode cX12_init 70 = .ok (.aload_n 0, 1) := by decide +kernel
theorem dX12_init_71 : decode cX12_init 71 = .ok (.iconst 4, 1) := by decide +kernel
theorem dX12_init_72 : decode cX12_init 72 = .ok (.anewarray 41, 3) := by decide +kernel
theorem dX12_init_75 : decode cX12_init 75 = .ok (.putfield 43, 3) := by decide +kernel
theorem dX12_init_78 : decode cX12_init 78 = .ok (.aload_n 0, 1) := by decide +kernel
theorem dX12_init_79 : decode cX12_init 79 = .ok (.iconst 4, 1) := by decide +kernel
theorem dX12_init_80 : decode cX12_init 80 = .ok (.newarray .int, 2) := by decide +kernel
theorem dX12_init_82 : decode cX12_init 82 = .ok (.putfield 47, 3) := by decide +kernel
theorem dX12_init_85 : decode cX12_init 85 = .ok (.aload_n 0, 1) := by decide +kernel
theorem dX12_init_86 : decode cX12_init 86 = .ok (.iconst 4, 1) := by decide +kernel
theorem dX12_init_87 : decode cX12_init 87 = .ok (.newarray .int, 2) := by decide +kernel
theorem dX12_init_89 : decode cX12_init 89 = .ok (.putfield 51, 3) := by decide +kernel
theorem dX12_init_92 : decode cX12_init 92 = .ok (.aload_n 0, 1) := by decide +kernel
theorem dX12_init_93 : decode cX12_init 93 = .ok (.bipush 6, 2) := by decide +kernel
theorem dX12_init_95 : decode cX12_init 95 = .ok (.anewarray 54, 3) := by decide +kernel
theorem dX12_init_98 : decode cX12_init 98 = .ok (.putfield 56, 3) := by decide +kernel
theorem dX12_init_101 : decode cX12_init 101 = .ok (.iconst 0, 1) := by decide +kernel
theorem dX12_init_102 : decode cX12_init 102 = .ok (.istore_n 1, 1) := by decide +kernel
theorem dX12_init_103 : decode cX12_init 103 = .ok (.iload_n 1, 1) := by decide +kernel
theorem dX12_init_104 : decode cX12_init 104 = .ok (.iconst 4, 1) := by decide +kernel
theorem dX12_init_105 : decode cX12_init 105 = .ok (.if_icmp .ge 30, 3) := by decide +kernel
theorem dX12_init_108 : decode cX12_init 108 = .ok (.aload_n 0, 1) := by decide +kernel
theorem dX12_init_109 : decode cX12_init 109 = .ok (.getfield 43, 3) := by decide +kernel
theorem dX12_init_112 : decode cX12_init 112 = .ok (.iload_n 1, 1) := by decide +kernel
theorem dX12_init_113 : decode cX12_init 113 = .ok (.new 41, 3) := by decide +kernel
theorem dX12_init_116 : decode cX12_init 116 = .ok (.dup, 1) := by decide +kernel
theorem dX12_init_117 : decode cX12_init 117 = .ok (.invokespecial 60, 3) := by decide +kernel
theorem dX12_init_120 : decode cX12_init 120 = .ok (.aastore, 1) := by decide +kernel
theorem dX12_init_121 : decode cX12_init 121 = .ok (.aload_n 0, 1) := by decide +kernel
theorem dX12_init_122 : decode cX12_init 122 = .ok (.getfield 47, 3) := by decide +kernel
theorem dX12_init_125 : decode cX12_init 125 = .ok (.iload_n 1, 1) := by decide +kernel
theorem dX12_init_126 : decode cX12_init 126 = .ok (.bipush (-5), 2) := by decide +kernel
theorem dX12_init_128 : decode cX12_init 128 = .ok (.iastore, 1) := by decide +kernel
theorem dX12_init_129 : decode cX12_init 129 = .ok (.iinc 1 1, 3) := by decide +kernel
theorem dX12_init_132 : decode cX12_init 132 = .ok (.goto (-29), 3) := by decide +kernel
theorem dX12_init_135 : decode cX12_init 135 = .ok (.iconst 0, 1) := by decide +kernel
theorem dX12_init_136 : decode cX12_init 136 = .ok (.istore_n 1, 1) := by decide +kernel
theorem dX12_init_137 : decode cX12_init 137 = .ok (.iload_n 1, 1) := by decide +kernel
theorem dX12_init_138 : decode cX12_init 138 = .ok (.bipush 6, 2) := by decide +kernel
theorem dX12_init_140 : decode cX12_init 140 = .ok (.if_icmp .ge 22, 3) := by decide +kernel
theorem dX12_init_143 : decode cX12_init 143 = .ok (.aload_n 0, 1) := by decide +kernel
theorem dX12_init_144 : decode cX12_init 144 = .ok (.getfield 56, 3) := by decide +kernel
theorem dX12_init_147 : decode cX12_init 147 = .ok (.iload_n 1, 1) := by decide +kernel
theorem dX12_init_148 : decode cX12_init 148 = .ok (.new 54, 3) := by decide +kernel
theorem dX12_init_151 : decode cX12_init 151 = .ok (.dup, 1) := by decide +kernel
theorem dX12_init_152 : decode cX12_init 152 = .ok (.invokespecial 61, 3) := by decide +kernel
theorem dX12_init_155 : decode cX12_init 155 = .ok (.aastore, 1) := by decide +kernel
theorem dX12_init_156 : decode cX12_init 156 = .ok (.iinc 1 1, 3) := by decide +kernel
theorem dX12_init_159 : decode cX12_init 159 = .ok (.goto (-22), 3) := by decide +kernel
theorem dX12_init_162 : decode cX12_init 162 = .ok (.return_, 1) := by decide +kernel
theorem dX12_feed_0 : decode cX12_feed 0 = .ok (.iload_n 1, 1) := by decide +kernel
theorem dX12_feed_1 : decode cX12_feed 1 = .ok (.ifCond .lt 9, 3) := by decide +kernel
theorem dX12_feed_4 : decode cX12_feed 4 = .ok (.iload_n 1, 1) := by decide +kernel
theorem dX12_feed_5 : decode cX12_feed 5 = .ok (.bipush 127, 2) := by decide +kernel
theorem dX12_feed_7 : decode cX12_feed 7 = .ok (.if_icmp .le 6, 3) := by decide +kernel
theorem dX12_feed_10 : decode cX12_feed 10 = .ok (.bipush (-2), 2) := by decide +kernel
theorem dX12_feed_12 : decode cX12_feed 12 = .ok (.ireturn, 1) := by decide +kernel
theorem dX12_feed_13 : decode cX12_feed 13 = .ok (.aload_n 0, 1) := by decide +kernel
theorem dX12_feed_14 : decode cX12_feed 14 = .ok (.getfield 14, 3) := by decide +kernel
theorem dX12_feed_17 : decode cX12_feed 17 = .ok (.iload_n 1, 1) := by decide +kernel
theorem dX12_feed_18 : decode cX12_feed 18 = .ok (.invokevirtual 62, 3) := by decide +kernel
theorem dX12_feed_21 : decode cX12_feed 21 = .ok (.ifCond .eq 13, 3) := by decide +kernel
theorem dX12_feed_24 : decode cX12_feed 24 = .ok (.aload_n 0, 1) := by decide +kernel
theorem dX12_feed_25 : decode cX12_feed 25 = .ok (.getfield 14, 3) := by decide +kernel
theorem dX12_feed_28 : decode cX12_feed 28 = .ok (.getfield 66, 3) := by decide +kernel
theorem dX12_feed_31 : decode cX12_feed 31 = .ok (.goto 5, 3) := by decide +kernel
theorem dX12_feed_34 : decode cX12_feed 34 = .ok (.bipush (-4), 2) := by decide +kernel
theorem dX12_feed_36 : decode cX12_feed 36 = .ok (.ireturn, 1) := by decide +kernel
theorem dX12_line_0 : decode cX12_line 0 = .ok (.aload_n 0, 1) := by decide +kernel
theorem dX12_line_1 : decode cX12_line 1 = .ok (.getfield 21, 3) := by decide +kernel
theorem dX12_line_4 : decode cX12_line 4 = .ok (.getfield 70, 3) := by decide +kernel
theorem dX12_line_7 : decode cX12_line 7 = .ok (.bipush 8, 2) := by decide +kernel
theorem dX12_line_9 : decode cX12_line 9 = .ok (.if_icmp .lt 6, 3) := by decide +kernel
theorem dX12_line_12 : decode cX12_line 12 = .ok (.bipush (-4), 2) := by decide +kernel
theorem dX12_line_14 : decode cX12_line 14 = .ok (.ireturn, 1) := by decide +kernel
theorem dX12_line_15 : decode cX12_line 15 = .ok (.aload_n 0, 1) := by decide +kernel
theorem dX12_line_16 : decode cX12_line 16 = .ok (.getfield 14, 3) := by decide +kernel
theorem dX12_line_19 : decode cX12_line 19 = .ok (.invokevirtual 73, 3) := by decide +kernel
theorem dX12_line_22 : decode cX12_line 22 = .ok (.astore_n 1, 1) := by decide +kernel
theorem dX12_line_23 : decode cX12_line 23 = .ok (.aload_n 1, 1) := by decide +kernel
theorem dX12_line_24 : decode cX12_line 24 = .ok (.ifnonnull 16, 3) := by decide +kernel
theorem dX12_line_27 : decode cX12_line 27 = .ok (.bipush (-10), 2) := by decide +kernel
theorem dX12_line_29 : decode cX12_line 29 = .ok (.aload_n 0, 1) := by decide +kernel
theorem dX12_line_30 : decode cX12_line 30 = .ok (.getfield 14, 3) := by decide +kernel
theorem dX12_line_33 : decode cX12_line 33 = .ok (.getfield 77, 3) := by decide +kernel
theorem dX12_line_36 : decode cX12_line 36 = .ok (.isub, 1) := by decide +kernel
theorem dX12_line_37 : decode cX12_line 37 = .ok (.goto 11, 3) := by decide +kernel
theorem dX12_line_40 : decode cX12_line 40 = .ok (.aload_n 0, 1) := by decide +kernel
theorem dX12_line_41 : decode cX12_line 41 = .ok (.getfield 21, 3) := by decide +kernel
theorem dX12_line_44 : decode cX12_line 44 = .ok (.aload_n 1, 1) := by decide +kernel
theorem dX12_line_45 : decode cX12_line 45 = .ok (.invokevirtual 80, 3) := by decide +kernel
theorem dX12_line_48 : decode cX12_line 48 = .ok (.ireturn, 1) := by decide +kernel
theorem dX12_of_0 : decode cX12_of 0 = .ok (.aload_n 0, 1) := by decide +kernel
theorem dX12_of_1 : decode cX12_of 1 = .ok (.iload_n 1, 1) := by decide +kernel
theorem dX12_of_2 : decode cX12_of 2 = .ok (.invokevirtual 83, 3) := by decide +kernel
theorem dX12_of_5 : decode cX12_of 5 = .ok (.ifCond .ne 5, 3) := by decide +kernel
theorem dX12_of_8 : decode cX12_of 8 = .ok (.iconst (-1), 1) := by decide +kernel
theorem dX12_of_9 : decode cX12_of 9 = .ok (.ireturn, 1) := by decide +kernel
theorem dX12_of_10 : decode cX12_of 10 = .ok (.aload_n 0, 1) := by decide +kernel
theorem dX12_of_11 : decode cX12_of 11 = .ok (.getfield 21, 3) := by decide +kernel
theorem dX12_of_14 : decode cX12_of 14 = .ok (.getfield 86, 3) := by decide +kernel
theorem dX12_of_17 : decode cX12_of 17 = .ok (.iload_n 1, 1) := by decide +kernel
theorem dX12_of_18 : decode cX12_of 18 = .ok (.aaload, 1) := by decide +kernel
theorem dX12_of_19 : decode cX12_of 19 = .ok (.astore_n 3, 1) := by decide +kernel
theorem dX12_of_20 : decode cX12_of 20 = .ok (.iload_n 2, 1) := by decide +kernel
theorem dX12_of_21 : decode cX12_of 21 = .ok (.tableswitch 42 0 2 #[27, 32, 37], 27) := by decide +kernel
theorem dX12_of_48 : decode cX12_of 48 = .ok (.aload_n 3, 1) := by decide +kernel
theorem dX12_of_49 : decode cX12_of 49 = .ok (.getfield 90, 3) := by decide +kernel
theorem dX12_of_52 : decode cX12_of 52 = .ok (.ireturn, 1) := by decide +kernel
theorem dX12_of_53 : decode cX12_of 53 = .ok (.aload_n 3, 1) := by decide +kernel
theorem dX12_of_54 : decode cX12_of 54 = .ok (.getfield 95, 3) := by decide +kernel
theorem dX12_of_57 : decode cX12_of 57 = .ok (.ireturn, 1) := by decide +kernel
theorem dX12_of_58 : decode cX12_of 58 = .ok (.aload_n 3, 1) := by decide +kernel
theorem dX12_of_59 : decode cX12_of 59 = .ok (.getfield 98, 3) := by decide +kernel
theorem dX12_of_62 : decode cX12_of 62 = .ok (.ireturn, 1) := by decide +kernel
theorem dX12_of_63 : decode cX12_of 63 = .ok (.iconst (-1), 1) := by decide +kernel
theorem dX12_of_64 : decode cX12_of 64 = .ok (.ireturn, 1) := by decide +kernel
theorem dX12_define_0 : decode cX12_define 0 = .ok (.iload_n 1, 1) := by decide +kernel
theorem dX12_define_1 : decode cX12_define 1 = .ok (.invokestatic 101, 3) := by decide +kernel
theorem dX12_define_4 : decode cX12_define 4 = .ok (.ifCond .eq 11, 3) := by decide +kernel
theorem dX12_define_7 : decode cX12_define 7 = .ok (.aload_n 0, 1) := by decide +kernel
theorem dX12_define_8 : decode cX12_define 8 = .ok (.iload_n 2, 1) := by decide +kernel
theorem dX12_define_9 : decode cX12_define 9 = .ok (.invokevirtual 104, 3) := by decide +kernel
theorem dX12_define_12 : decode cX12_define 12 = .ok (.ifCond .ne 5, 3) := by decide +kernel
theorem dX12_define_15 : decode cX12_define 15 = .ok (.iconst (-1), 1) := by decide +kernel
theorem dX12_define_16 : decode cX12_define 16 = .ok (.ireturn, 1) := by decide +kernel
theorem dX12_define_17 : decode cX12_define 17 = .ok (.aload_n 0, 1) := by decide +kernel
theorem dX12_define_18 : decode cX12_define 18 = .ok (.getfield 28, 3) := by decide +kernel
theorem dX12_define_21 : decode cX12_define 21 = .ok (.getfield 107, 3) := by decide +kernel
theorem dX12_define_24 : decode cX12_define 24 = .ok (.iload_n 1, 1) := by decide +kernel
theorem dX12_define_25 : decode cX12_define 25 = .ok (.iaload, 1) := by decide +kernel
theorem dX12_define_26 : decode cX12_define 26 = .ok (.istore_n 3, 1) := by decide +kernel
theorem dX12_define_27 : decode cX12_define 27 = .ok (.aload_n 0, 1) := by decide +kernel
theorem dX12_define_28 : decode cX12_define 28 = .ok (.getfield 28, 3) := by decide +kernel
theorem dX12_define_31 : decode cX12_define 31 = .ok (.getfield 107, 3) := by decide +kernel
theorem dX12_define_34 : decode cX12_define 34 = .ok (.iload_n 1, 1) := by decide +kernel
theorem dX12_define_35 : decode cX12_define 35 = .ok (.iload_n 2, 1) := by decide +kernel
theorem dX12_define_36 : decode cX12_define 36 = .ok (.ifCond .ge 8, 3) := by decide +kernel
theorem dX12_define_39 : decode cX12_define 39 = .ok (.bipush (-5), 2) := by decide +kernel
theorem dX12_define_41 : decode cX12_define 41 = .ok (.goto 4, 3) := by decide +kernel
theorem dX12_define_44 : decode cX12_define 44 = .ok (.iload_n 2, 1) := by decide +kernel
theorem dX12_define_45 : decode cX12_define 45 = .ok (.iastore, 1) := by decide +kernel
theorem dX12_define_46 : decode cX12_define 46 = .ok (.iload_n 3, 1) := by decide +kernel
theorem dX12_define_47 : decode cX12_define 47 = .ok (.ireturn, 1) := by decide +kernel
theorem dX12_trap_0 : decode cX12_trap 0 = .ok (.aload_n 0, 1) := by decide +kernel
theorem dX12_trap_1 : decode cX12_trap 1 = .ok (.iload_n 1, 1) := by decide +kernel
theorem dX12_trap_2 : decode cX12_trap 2 = .ok (.invokevirtual 104, 3) := by decide +kernel
theorem dX12_trap_5 : decode cX12_trap 5 = .ok (.ifCond .ne 5, 3) := by decide +kernel
theorem dX12_trap_8 : decode cX12_trap 8 = .ok (.iconst (-1), 1) := by decide +kernel
theorem dX12_trap_9 : decode cX12_trap 9 = .ok (.ireturn, 1) := by decide +kernel
theorem dX12_trap_10 : decode cX12_trap 10 = .ok (.aload_n 0, 1) := by decide +kernel
theorem dX12_trap_11 : decode cX12_trap 11 = .ok (.getfield 28, 3) := by decide +kernel
theorem dX12_trap_14 : decode cX12_trap 14 = .ok (.getfield 110, 3) := by decide +kernel
theorem dX12_trap_17 : decode cX12_trap 17 = .ok (.istore_n 2, 1) := by decide +kernel
theorem dX12_trap_18 : decode cX12_trap 18 = .ok (.aload_n 0, 1) := by decide +kernel
theorem dX12_trap_19 : decode cX12_trap 19 = .ok (.getfield 28, 3) := by decide +kernel
theorem dX12_trap_22 : decode cX12_trap 22 = .ok (.iload_n 1, 1) := by decide +kernel
theorem dX12_trap_23 : decode cX12_trap 23 = .ok (.ifCond .ge 8, 3) := by decide +kernel
theorem dX12_trap_26 : decode cX12_trap 26 = .ok (.bipush (-5), 2) := by decide +kernel
theorem dX12_trap_28 : decode cX12_trap 28 = .ok (.goto 4, 3) := by decide +kernel
theorem dX12_trap_31 : decode cX12_trap 31 = .ok (.iload_n 1, 1) := by decide +kernel
theorem dX12_trap_32 : decode cX12_trap 32 = .ok (.putfield 110, 3) := by decide +kernel
theorem dX12_trap_35 : decode cX12_trap 35 = .ok (.iload_n 2, 1) := by decide +kernel
theorem dX12_trap_36 : decode cX12_trap 36 = .ok (.ireturn, 1) := by decide +kernel
theorem dX12_value_0 : decode cX12_value 0 = .ok (.iload_n 1, 1) := by decide +kernel
theorem dX12_value_1 : decode cX12_value 1 = .ok (.invokestatic 113, 3) := by decide +kernel
theorem dX12_value_4 : decode cX12_value 4 = .ok (.ifCond .ne 7, 3) := by decide +kernel
theorem dX12_value_7 : decode cX12_value 7 = .ok (.ldc2_w 116, 3) := by decide +kernel
theorem dX12_value_10 : decode cX12_value 10 = .ok (.lreturn, 1) := by decide +kernel
theorem dX12_value_11 : decode cX12_value 11 = .ok (.aload_n 0, 1) := by decide +kernel
theorem dX12_value_12 : decode cX12_value 12 = .ok (.getfield 28, 3) := by decide +kernel
theorem dX12_value_15 : decode cX12_value 15 = .ok (.getfield 118, 3) := by decide +kernel
theorem dX12_value_18 : decode cX12_value 18 = .ok (.iload_n 1, 1) := by decide +kernel
theorem dX12_value_19 : decode cX12_value 19 = .ok (.iaload, 1) := by decide +kernel
theorem dX12_value_20 : decode cX12_value 20 = .ok (.istore_n 3, 1) := by decide +kernel
theorem dX12_value_21 : decode cX12_value 21 = .ok (.aload_n 0, 1) := by decide +kernel
theorem dX12_value_22 : decode cX12_value 22 = .ok (.getfield 28, 3) := by decide +kernel
theorem dX12_value_25 : decode cX12_value 25 = .ok (.getfield 118, 3) := by decide +kernel
theorem dX12_value_28 : decode cX12_value 28 = .ok (.iload_n 1, 1) := by decide +kernel
theorem dX12_value_29 : decode cX12_value 29 = .ok (.iload_n 2, 1) := by decide +kernel
theorem dX12_value_30 : decode cX12_value 30 = .ok (.iastore, 1) := by decide +kernel
theorem dX12_value_31 : decode cX12_value 31 = .ok (.iload_n 3, 1) := by decide +kernel
theorem dX12_value_32 : decode cX12_value 32 = .ok (.i2l, 1) := by decide +kernel
theorem dX12_value_33 : decode cX12_value 33 = .ok (.lreturn, 1) := by decide +kernel
theorem dX12_isLine_0 : decode cX12_isLine 0 = .ok (.iload_n 1, 1) := by decide +kernel
theorem dX12_isLine_1 : decode cX12_isLine 1 = .ok (.ifCond .lt 18, 3) := by decide +kernel
theorem dX12_isLine_4 : decode cX12_isLine 4 = .ok (.iload_n 1, 1) := by decide +kernel
theorem dX12_isLine_5 : decode cX12_isLine 5 = .ok (.aload_n 0, 1) := by decide +kernel
theorem dX12_isLine_6 : decode cX12_isLine 6 = .ok (.getfield 21, 3) := by decide +kernel
theorem dX12_isLine_9 : decode cX12_isLine 9 = .ok (.getfield 70, 3) := by decide +kernel
theorem dX12_isLine_12 : decode cX12_isLine 12 = .ok (.if_icmp .ge 7, 3) := by decide +kernel
theorem dX12_isLine_15 : decode cX12_isLine 15 = .ok (.iconst 1, 1) := by decide +kernel
theorem dX12_isLine_16 : decode cX12_isLine 16 = .ok (.goto 4, 3) := by decide +kernel
theorem dX12_isLine_19 : decode cX12_isLine 19 = .ok (.iconst 0, 1) := by decide +kernel
theorem dX12_isLine_20 : decode cX12_isLine 20 = .ok (.ireturn, 1) := by decide +kernel
theorem dX12_isLineOrNone_0 : decode cX12_isLineOrNone 0 = .ok (.iload_n 1, 1) := by decide +kernel
theorem dX12_isLineOrNone_1 : decode cX12_isLineOrNone 1 = .ok (.iconst (-1), 1) := by decide +kernel
theorem dX12_isLineOrNone_2 : decode cX12_isLineOrNone 2 = .ok (.if_icmp .eq 11, 3) := by decide +kernel
theorem dX12_isLineOrNone_5 : decode cX12_isLineOrNone 5 = .ok (.aload_n 0, 1) := by decide +kernel
theorem dX12_isLineOrNone_6 : decode cX12_isLineOrNone 6 = .ok (.iload_n 1, 1) := by decide +kernel
theorem dX12_isLineOrNone_7 : decode cX12_isLineOrNone 7 = .ok (.invokevirtual 83, 3) := by decide +kernel
theorem dX12_isLineOrNone_10 : decode cX12_isLineOrNone 10 = .ok (.ifCond .eq 7, 3) := by decide +kernel
theorem dX12_isLineOrNone_13 : decode cX12_isLineOrNone 13 = .ok (.iconst 1, 1) := by decide +kernel
theorem dX12_isLineOrNone_14 : decode cX12_isLineOrNone 14 = .ok (.goto 4, 3) := by decide +kernel
theorem dX12_isLineOrNone_17 : decode cX12_isLineOrNone 17 = .ok (.iconst 0, 1) := by decide +kernel
theorem dX12_isLineOrNone_18 : decode cX12_isLineOrNone 18 = .ok (.ireturn, 1) := by decide +kernel
theorem dX12_isName_0 : decode cX12_isName 0 = .ok (.iload_n 0, 1) := by decide +kernel
theorem dX12_isName_1 : decode cX12_isName 1 = .ok (.ifCond .lt 12, 3) := by decide +kernel
theorem dX12_isName_4 : decode cX12_isName 4 = .ok (.iload_n 0, 1) := by decide +kernel
theorem dX12_isName_5 : decode cX12_isName 5 = .ok (.iconst 5, 1) := by decide +kernel
theorem dX12_isName_6 : decode cX12_isName 6 = .ok (.if_icmp .ge 7, 3) := by decide +kernel
theorem dX12_isName_9 : decode cX12_isName 9 = .ok (.iconst 1, 1) := by decide +kernel
theorem dX12_isName_10 : decode cX12_isName 10 = .ok (.goto 4, 3) := by decide +kernel
theorem dX12_isName_13 : decode cX12_isName 13 = .ok (.iconst 0, 1) := by decide +kernel
theorem dX12_isName_14 : decode cX12_isName 14 = .ok (.ireturn, 1) := by decide +kernel
theorem dX12_isFunction_0 : decode cX12_isFunction 0 = .ok (.iload_n 0, 1) := by decide +kernel
theorem dX12_isFunction_1 : decode cX12_isFunction 1 = .ok (.ifCond .lt 12, 3) := by decide +kernel
theorem dX12_isFunction_4 : decode cX12_isFunction 4 = .ok (.iload_n 0, 1) := by decide +kernel
theorem dX12_isFunction_5 : decode cX12_isFunction 5 = .ok (.iconst 3, 1) := by decide +kernel
theorem dX12_isFunction_6 : decode cX12_isFunction 6 = .ok (.if_icmp .ge 7, 3) := by decide +kernel
theorem dX12_isFunction_9 : decode cX12_isFunction 9 = .ok (.iconst 1, 1) := by decide +kernel
theorem dX12_isFunction_10 : decode cX12_isFunction 10 = .ok (.goto 4, 3) := by decide +kernel
theorem dX12_isFunction_13 : decode cX12_isFunction 13 = .ok (.iconst 0, 1) := by decide +kernel
theorem dX12_isFunction_14 : decode cX12_isFunction 14 = .ok (.ireturn, 1) := by decide +kernel
theorem dX12_run_0 : decode cX12_run 0 = .ok (.aload_n 0, 1) := by decide +kernel
theorem dX12_run_1 : decode cX12_run 1 = .ok (.iload_n 1, 1) := by decide +kernel
theorem dX12_run_2 : decode cX12_run 2 = .ok (.invokevirtual 83, 3) := by decide +kernel
theorem dX12_run_5 : decode cX12_run 5 = .ok (.ifCond .ne 5, 3) := by decide +kernel
theorem dX12_run_8 : decode cX12_run 8 = .ok (.iconst (-1), 1) := by decide +kernel
theorem dX12_run_9 : decode cX12_run 9 = .ok (.ireturn, 1) := by decide +kernel
theorem dX12_run_10 : decode cX12_run 10 = .ok (.aload_n 0, 1) := by decide +kernel
theorem dX12_run_11 : decode cX12_run 11 = .ok (.getfield 21, 3) := by decide +kernel
theorem dX12_run_14 : decode cX12_run 14 = .ok (.aload_n 0, 1) := by decide +kernel
theorem dX12_run_15 : decode cX12_run 15 = .ok (.getfield 28, 3) := by decide +kernel
theorem dX12_run_18 : decode cX12_run 18 = .ok (.iload_n 1, 1) := by decide +kernel
theorem dX12_run_19 : decode cX12_run 19 = .ok (.invokevirtual 121, 3) := by decide +kernel
theorem dX12_run_22 : decode cX12_run 22 = .ok (.aload_n 0, 1) := by decide +kernel
theorem dX12_run_23 : decode cX12_run 23 = .ok (.getfield 28, 3) := by decide +kernel
theorem dX12_run_26 : decode cX12_run 26 = .ok (.getfield 125, 3) := by decide +kernel
theorem dX12_run_29 : decode cX12_run 29 = .ok (.getfield 129, 3) := by decide +kernel
theorem dX12_run_32 : decode cX12_run 32 = .ok (.ireturn, 1) := by decide +kernel
theorem dX12_told_0 : decode cX12_told 0 = .ok (.iload_n 1, 1) := by decide +kernel
theorem dX12_told_1 : decode cX12_told 1 = .ok (.bipush 10, 2) := by decide +kernel
theorem dX12_told_3 : decode cX12_told 3 = .ok (.if_icmp .lt 23, 3) := by decide +kernel
theorem dX12_told_6 : decode cX12_told 6 = .ok (.iload_n 1, 1) := by decide +kernel
theorem dX12_told_7 : decode cX12_told 7 = .ok (.bipush 15, 2) := by decide +kernel
theorem dX12_told_9 : decode cX12_told 9 = .ok (.if_icmp .ge 17, 3) := by decide +kernel
theorem dX12_told_12 : decode cX12_told 12 = .ok (.aload_n 0, 1) := by decide +kernel
theorem dX12_told_13 : decode cX12_told 13 = .ok (.getfield 28, 3) := by decide +kernel
theorem dX12_told_16 : decode cX12_told 16 = .ok (.getfield 118, 3) := by decide +kernel
theorem dX12_told_19 : decode cX12_told 19 = .ok (.iload_n 1, 1) := by decide +kernel
theorem dX12_told_20 : decode cX12_told 20 = .ok (.bipush 10, 2) := by decide +kernel
theorem dX12_told_22 : decode cX12_told 22 = .ok (.isub, 1) := by decide +kernel
theorem dX12_told_23 : decode cX12_told 23 = .ok (.iaload, 1) := by decide +kernel
theorem dX12_told_24 : decode cX12_told 24 = .ok (.i2l, 1) := by decide +kernel
theorem dX12_told_25 : decode cX12_told 25 = .ok (.lreturn, 1) := by decide +kernel
theorem dX12_told_26 : decode cX12_told 26 = .ok (.iload_n 1, 1) := by decide +kernel
theorem dX12_told_27 : decode cX12_told 27 = .ok (.bipush 20, 2) := by decide +kernel
theorem dX12_told_29 : decode cX12_told 29 = .ok (.if_icmp .lt 23, 3) := by decide +kernel
theorem dX12_told_32 : decode cX12_told 32 = .ok (.iload_n 1, 1) := by decide +kernel
theorem dX12_told_33 : decode cX12_told 33 = .ok (.bipush 23, 2) := by decide +kernel
theorem dX12_told_35 : decode cX12_told 35 = .ok (.if_icmp .ge 17, 3) := by decide +kernel
theorem dX12_told_38 : decode cX12_told 38 = .ok (.aload_n 0, 1) := by decide +kernel
theorem dX12_told_39 : decode cX12_told 39 = .ok (.getfield 28, 3) := by decide +kernel
theorem dX12_told_42 : decode cX12_told 42 = .ok (.getfield 107, 3) := by decide +kernel
theorem dX12_told_45 : decode cX12_told 45 = .ok (.iload_n 1, 1) := by decide +kernel
theorem dX12_told_46 : decode cX12_told 46 = .ok (.bipush 20, 2) := by decide +kernel
theorem dX12_told_48 : decode cX12_told 48 = .ok (.isub, 1) := by decide +kernel
theorem dX12_told_49 : decode cX12_told 49 = .ok (.iaload, 1) := by decide +kernel
theorem dX12_told_50 : decode cX12_told 50 = .ok (.i2l, 1) := by decide +kernel
theorem dX12_told_51 : decode cX12_told 51 = .ok (.lreturn, 1) := by decide +kernel
theorem dX12_told_52 : decode cX12_told 52 = .ok (.iload_n 1, 1) := by decide +kernel
theorem dX12_told_53 : decode cX12_told 53 = .ok (.bipush 30, 2) := by decide +kernel
theorem dX12_told_55 : decode cX12_told 55 = .ok (.if_icmp .ne 14, 3) := by decide +kernel
theorem dX12_told_58 : decode cX12_told 58 = .ok (.aload_n 0, 1) := by decide +kernel
theorem dX12_told_59 : decode cX12_told 59 = .ok (.getfield 28, 3) := by decide +kernel
theorem dX12_told_62 : decode cX12_told 62 = .ok (.getfield 110, 3) := by decide +kernel
theorem dX12_told_65 : decode cX12_told 65 = .ok (.i2l, 1) := by decide +kernel
theorem dX12_told_66 : decode cX12_told 66 = .ok (.goto 11, 3) := by decide +kernel
theorem dX12_told_69 : decode cX12_told 69 = .ok (.aload_n 0, 1) := by decide +kernel
theorem dX12_told_70 : decode cX12_told 70 = .ok (.getfield 28, 3) := by decide +kernel
theorem dX12_told_73 : decode cX12_told 73 = .ok (.iload_n 1, 1) := by decide +kernel
theorem dX12_told_74 : decode cX12_told 74 = .ok (.invokestatic 134, 3) := by decide +kernel
theorem dX12_told_77 : decode cX12_told 77 = .ok (.lreturn, 1) := by decide +kernel
theorem dX12_ofRun_0 : decode cX12_ofRun 0 = .ok (.iload_n 1, 1) := by decide +kernel
theorem dX12_ofRun_1 : decode cX12_ofRun 1 = .ok (.tableswitch 48 0 2 #[27, 36, 42], 27) := by decide +kernel
theorem dX12_ofRun_28 : decode cX12_ofRun 28 = .ok (.aload_n 0, 1) := by decide +kernel
theorem dX12_ofRun_29 : decode cX12_ofRun 29 = .ok (.getfield 125, 3) := by decide +kernel
theorem dX12_ofRun_32 : decode cX12_ofRun 32 = .ok (.getfield 129, 3) := by decide +kernel
theorem dX12_ofRun_35 : decode cX12_ofRun 35 = .ok (.i2l, 1) := by decide +kernel
theorem dX12_ofRun_36 : decode cX12_ofRun 36 = .ok (.lreturn, 1) := by decide +kernel
theorem dX12_ofRun_37 : decode cX12_ofRun 37 = .ok (.aload_n 0, 1) := by decide +kernel
theorem dX12_ofRun_38 : decode cX12_ofRun 38 = .ok (.getfield 138, 3) := by decide +kernel
theorem dX12_ofRun_41 : decode cX12_ofRun 41 = .ok (.i2l, 1) := by decide +kernel
theorem dX12_ofRun_42 : decode cX12_ofRun 42 = .ok (.lreturn, 1) := by decide +kernel
theorem dX12_ofRun_43 : decode cX12_ofRun 43 = .ok (.aload_n 0, 1) := by decide +kernel
theorem dX12_ofRun_44 : decode cX12_ofRun 44 = .ok (.getfield 141, 3) := by decide +kernel
theorem dX12_ofRun_47 : decode cX12_ofRun 47 = .ok (.i2l, 1) := by decide +kernel
theorem dX12_ofRun_48 : decode cX12_ofRun 48 = .ok (.lreturn, 1) := by decide +kernel
theorem dX12_ofRun_49 : decode cX12_ofRun 49 = .ok (.iload_n 1, 1) := by decide +kernel
theorem dX12_ofRun_50 : decode cX12_ofRun 50 = .ok (.bipush 40, 2) := by decide +kernel
theorem dX12_ofRun_52 : decode cX12_ofRun 52 = .ok (.if_icmp .ge 9, 3) := by decide +kernel
theorem dX12_ofRun_55 : decode cX12_ofRun 55 = .ok (.ldc2_w 116, 3) := by decide +kernel
theorem dX12_ofRun_58 : decode cX12_ofRun 58 = .ok (.goto 14, 3) := by decide +kernel
theorem dX12_ofRun_61 : decode cX12_ofRun 61 = .ok (.aload_n 0, 1) := by decide +kernel
theorem dX12_ofRun_62 : decode cX12_ofRun 62 = .ok (.getfield 125, 3) := by decide +kernel
theorem dX12_ofRun_65 : decode cX12_ofRun 65 = .ok (.iload_n 1, 1) := by decide +kernel
theorem dX12_ofRun_66 : decode cX12_ofRun 66 = .ok (.bipush 40, 2) := by decide +kernel
theorem dX12_ofRun_68 : decode cX12_ofRun 68 = .ok (.isub, 1) := by decide +kernel
theorem dX12_ofRun_69 : decode cX12_ofRun 69 = .ok (.invokevirtual 144, 3) := by decide +kernel
theorem dX12_ofRun_72 : decode cX12_ofRun 72 = .ok (.lreturn, 1) := by decide +kernel
theorem dX12_job_0 : decode cX12_job 0 = .ok (.aload_n 0, 1) := by decide +kernel
theorem dX12_job_1 : decode cX12_job 1 = .ok (.iload_n 1, 1) := by decide +kernel
theorem dX12_job_2 : decode cX12_job 2 = .ok (.invokevirtual 83, 3) := by decide +kernel
theorem dX12_job_5 : decode cX12_job 5 = .ok (.ifCond .ne 5, 3) := by decide +kernel
theorem dX12_job_8 : decode cX12_job 8 = .ok (.iconst (-1), 1) := by decide +kernel
theorem dX12_job_9 : decode cX12_job 9 = .ok (.ireturn, 1) := by decide +kernel
theorem dX12_job_10 : decode cX12_job 10 = .ok (.iconst 0, 1) := by decide +kernel
theorem dX12_job_11 : decode cX12_job 11 = .ok (.istore_n 2, 1) := by decide +kernel
theorem dX12_job_12 : decode cX12_job 12 = .ok (.iload_n 2, 1) := by decide +kernel
theorem dX12_job_13 : decode cX12_job 13 = .ok (.iconst 4, 1) := by decide +kernel
theorem dX12_job_14 : decode cX12_job 14 = .ok (.if_icmp .ge 56, 3) := by decide +kernel
theorem dX12_job_17 : decode cX12_job 17 = .ok (.aload_n 0, 1) := by decide +kernel
theorem dX12_job_18 : decode cX12_job 18 = .ok (.getfield 47, 3) := by decide +kernel
theorem dX12_job_21 : decode cX12_job 21 = .ok (.iload_n 2, 1) := by decide +kernel
theorem dX12_job_22 : decode cX12_job 22 = .ok (.iaload, 1) := by decide +kernel
theorem dX12_job_23 : decode cX12_job 23 = .ok (.bipush (-5), 2) := by decide +kernel
theorem dX12_job_25 : decode cX12_job 25 = .ok (.if_icmp .ne 39, 3) := by decide +kernel
theorem dX12_job_28 : decode cX12_job 28 = .ok (.aload_n 0, 1) := by decide +kernel
theorem dX12_job_29 : decode cX12_job 29 = .ok (.getfield 47, 3) := by decide +kernel
theorem dX12_job_32 : decode cX12_job 32 = .ok (.iload_n 2, 1) := by decide +kernel
theorem dX12_job_33 : decode cX12_job 33 = .ok (.iload_n 1, 1) := by decide +kernel
theorem dX12_job_34 : decode cX12_job 34 = .ok (.iastore, 1) := by decide +kernel
theorem dX12_job_35 : decode cX12_job 35 = .ok (.aload_n 0, 1) := by decide +kernel
theorem dX12_job_36 : decode cX12_job 36 = .ok (.getfield 51, 3) := by decide +kernel
theorem dX12_job_39 : decode cX12_job 39 = .ok (.iload_n 2, 1) := by decide +kernel
theorem dX12_job_40 : decode cX12_job 40 = .ok (.bipush 60, 2) := by decide +kernel
theorem dX12_job_42 : decode cX12_job 42 = .ok (.iastore, 1) := by decide +kernel
theorem dX12_job_43 : decode cX12_job 43 = .ok (.aload_n 0, 1) := by decide +kernel
theorem dX12_job_44 : decode cX12_job 44 = .ok (.getfield 43, 3) := by decide +kernel
theorem dX12_job_47 : decode cX12_job 47 = .ok (.iload_n 2, 1) := by decide +kernel
theorem dX12_job_48 : decode cX12_job 48 = .ok (.aaload, 1) := by decide +kernel
theorem dX12_job_49 : decode cX12_job 49 = .ok (.aload_n 0, 1) := by decide +kernel
theorem dX12_job_50 : decode cX12_job 50 = .ok (.getfield 21, 3) := by decide +kernel
theorem dX12_job_53 : decode cX12_job 53 = .ok (.iload_n 1, 1) := by decide +kernel
theorem dX12_job_54 : decode cX12_job 54 = .ok (.invokevirtual 148, 3) := by decide +kernel
theorem dX12_job_57 : decode cX12_job 57 = .ok (.iconst 0, 1) := by decide +kernel
theorem dX12_job_58 : decode cX12_job 58 = .ok (.iconst 0, 1) := by decide +kernel
theorem dX12_job_59 : decode cX12_job 59 = .ok (.invokevirtual 152, 3) := by decide +kernel
theorem dX12_job_62 : decode cX12_job 62 = .ok (.iload_n 2, 1) := by decide +kernel
theorem dX12_job_63 : decode cX12_job 63 = .ok (.ireturn, 1) := by decide +kernel
theorem dX12_job_64 : decode cX12_job 64 = .ok (.iinc 2 1, 3) := by decide +kernel
theorem dX12_job_67 : decode cX12_job 67 = .ok (.goto (-55), 3) := by decide +kernel
theorem dX12_job_70 : decode cX12_job 70 = .ok (.bipush (-4), 2) := by decide +kernel
theorem dX12_job_72 : decode cX12_job 72 = .ok (.ireturn, 1) := by decide +kernel
theorem dX12_turn_0 : decode cX12_turn 0 = .ok (.aload_n 0, 1) := by decide +kernel
theorem dX12_turn_1 : decode cX12_turn 1 = .ok (.iload_n 1, 1) := by decide +kernel
theorem dX12_turn_2 : decode cX12_turn 2 = .ok (.invokevirtual 156, 3) := by decide +kernel
theorem dX12_turn_5 : decode cX12_turn 5 = .ok (.ifCond .ne 7, 3) := by decide +kernel
theorem dX12_turn_8 : decode cX12_turn 8 = .ok (.ldc2_w 116, 3) := by decide +kernel
theorem dX12_turn_11 : decode cX12_turn 11 = .ok (.lreturn, 1) := by decide +kernel
theorem dX12_turn_12 : decode cX12_turn 12 = .ok (.aload_n 0, 1) := by decide +kernel
theorem dX12_turn_13 : decode cX12_turn 13 = .ok (.getfield 21, 3) := by decide +kernel
theorem dX12_turn_16 : decode cX12_turn 16 = .ok (.aload_n 0, 1) := by decide +kernel
theorem dX12_turn_17 : decode cX12_turn 17 = .ok (.getfield 51, 3) := by decide +kernel
theorem dX12_turn_20 : decode cX12_turn 20 = .ok (.iload_n 1, 1) := by decide +kernel
theorem dX12_turn_21 : decode cX12_turn 21 = .ok (.iaload, 1) := by decide +kernel
theorem dX12_turn_22 : decode cX12_turn 22 = .ok (.putfield 159, 3) := by decide +kernel
theorem dX12_turn_25 : decode cX12_turn 25 = .ok (.aload_n 0, 1) := by decide +kernel
theorem dX12_turn_26 : decode cX12_turn 26 = .ok (.getfield 21, 3) := by decide +kernel
theorem dX12_turn_29 : decode cX12_turn 29 = .ok (.aload_n 0, 1) := by decide +kernel
theorem dX12_turn_30 : decode cX12_turn 30 = .ok (.getfield 28, 3) := by decide +kernel
theorem dX12_turn_33 : decode cX12_turn 33 = .ok (.aload_n 0, 1) := by decide +kernel
theorem dX12_turn_34 : decode cX12_turn 34 = .ok (.getfield 43, 3) := by decide +kernel
theorem dX12_turn_37 : decode cX12_turn 37 = .ok (.iload_n 1, 1) := by decide +kernel
theorem dX12_turn_38 : decode cX12_turn 38 = .ok (.aaload, 1) := by decide +kernel
theorem dX12_turn_39 : decode cX12_turn 39 = .ok (.iconst 0, 1) := by decide +kernel
theorem dX12_turn_40 : decode cX12_turn 40 = .ok (.invokevirtual 162, 3) := by decide +kernel
theorem dX12_turn_43 : decode cX12_turn 43 = .ok (.lstore_n 2, 1) := by decide +kernel
theorem dX12_turn_44 : decode cX12_turn 44 = .ok (.aload_n 0, 1) := by decide +kernel
theorem dX12_turn_45 : decode cX12_turn 45 = .ok (.getfield 51, 3) := by decide +kernel
theorem dX12_turn_48 : decode cX12_turn 48 = .ok (.iload_n 1, 1) := by decide +kernel
theorem dX12_turn_49 : decode cX12_turn 49 = .ok (.aload_n 0, 1) := by decide +kernel
theorem dX12_turn_50 : decode cX12_turn 50 = .ok (.getfield 21, 3) := by decide +kernel
theorem dX12_turn_53 : decode cX12_turn 53 = .ok (.getfield 159, 3) := by decide +kernel
theorem dX12_turn_56 : decode cX12_turn 56 = .ok (.iastore, 1) := by decide +kernel
theorem dX12_turn_57 : decode cX12_turn 57 = .ok (.lload_n 2, 1) := by decide +kernel
theorem dX12_turn_58 : decode cX12_turn 58 = .ok (.ldc2_w 116, 3) := by decide +kernel
theorem dX12_turn_61 : decode cX12_turn 61 = .ok (.lcmp, 1) := by decide +kernel
theorem dX12_turn_62 : decode cX12_turn 62 = .ok (.ifCond .ne 11, 3) := by decide +kernel
theorem dX12_turn_65 : decode cX12_turn 65 = .ok (.aload_n 0, 1) := by decide +kernel
theorem dX12_turn_66 : decode cX12_turn 66 = .ok (.getfield 47, 3) := by decide +kernel
theorem dX12_turn_69 : decode cX12_turn 69 = .ok (.iload_n 1, 1) := by decide +kernel
theorem dX12_turn_70 : decode cX12_turn 70 = .ok (.bipush (-5), 2) := by decide +kernel
theorem dX12_turn_72 : decode cX12_turn 72 = .ok (.iastore, 1) := by decide +kernel
theorem dX12_turn_73 : decode cX12_turn 73 = .ok (.lload_n 2, 1) := by decide +kernel
theorem dX12_turn_74 : decode cX12_turn 74 = .ok (.lreturn, 1) := by decide +kernel
theorem dX12_stop_0 : decode cX12_stop 0 = .ok (.aload_n 0, 1) := by decide +kernel
theorem dX12_stop_1 : decode cX12_stop 1 = .ok (.iload_n 1, 1) := by decide +kernel
theorem dX12_stop_2 : decode cX12_stop 2 = .ok (.invokevirtual 156, 3) := by decide +kernel
theorem dX12_stop_5 : decode cX12_stop 5 = .ok (.ifCond .ne 5, 3) := by decide +kernel
theorem dX12_stop_8 : decode cX12_stop 8 = .ok (.iconst (-1), 1) := by decide +kernel
theorem dX12_stop_9 : decode cX12_stop 9 = .ok (.ireturn, 1) := by decide +kernel
theorem dX12_stop_10 : decode cX12_stop 10 = .ok (.aload_n 0, 1) := by decide +kernel
theorem dX12_stop_11 : decode cX12_stop 11 = .ok (.getfield 47, 3) := by decide +kernel
theorem dX12_stop_14 : decode cX12_stop 14 = .ok (.iload_n 1, 1) := by decide +kernel
theorem dX12_stop_15 : decode cX12_stop 15 = .ok (.iaload, 1) := by decide +kernel
theorem dX12_stop_16 : decode cX12_stop 16 = .ok (.istore_n 2, 1) := by decide +kernel
theorem dX12_stop_17 : decode cX12_stop 17 = .ok (.aload_n 0, 1) := by decide +kernel
theorem dX12_stop_18 : decode cX12_stop 18 = .ok (.getfield 47, 3) := by decide +kernel
theorem dX12_stop_21 : decode cX12_stop 21 = .ok (.iload_n 1, 1) := by decide +kernel
theorem dX12_stop_22 : decode cX12_stop 22 = .ok (.bipush (-5), 2) := by decide +kernel
theorem dX12_stop_24 : decode cX12_stop 24 = .ok (.iastore, 1) := by decide +kernel
theorem dX12_stop_25 : decode cX12_stop 25 = .ok (.iload_n 2, 1) := by decide +kernel
theorem dX12_stop_26 : decode cX12_stop 26 = .ok (.ireturn, 1) := by decide +kernel
theorem dX12_isJob_0 : decode cX12_isJob 0 = .ok (.iload_n 1, 1) := by decide +kernel
theorem dX12_isJob_1 : decode cX12_isJob 1 = .ok (.ifCond .lt 23, 3) := by decide +kernel
theorem dX12_isJob_4 : decode cX12_isJob 4 = .ok (.iload_n 1, 1) := by decide +kernel
theorem dX12_isJob_5 : decode cX12_isJob 5 = .ok (.iconst 4, 1) := by decide +kernel
theorem dX12_isJob_6 : decode cX12_isJob 6 = .ok (.if_icmp .ge 18, 3) := by decide +kernel
theorem dX12_isJob_9 : decode cX12_isJob 9 = .ok (.aload_n 0, 1) := by decide +kernel
theorem dX12_isJob_10 : decode cX12_isJob 10 = .ok (.getfield 47, 3) := by decide +kernel
theorem dX12_isJob_13 : decode cX12_isJob 13 = .ok (.iload_n 1, 1) := by decide +kernel
theorem dX12_isJob_14 : decode cX12_isJob 14 = .ok (.iaload, 1) := by decide +kernel
theorem dX12_isJob_15 : decode cX12_isJob 15 = .ok (.bipush (-5), 2) := by decide +kernel
theorem dX12_isJob_17 : decode cX12_isJob 17 = .ok (.if_icmp .eq 7, 3) := by decide +kernel
theorem dX12_isJob_20 : decode cX12_isJob 20 = .ok (.iconst 1, 1) := by decide +kernel
theorem dX12_isJob_21 : decode cX12_isJob 21 = .ok (.goto 4, 3) := by decide +kernel
theorem dX12_isJob_24 : decode cX12_isJob 24 = .ok (.iconst 0, 1) := by decide +kernel
theorem dX12_isJob_25 : decode cX12_isJob 25 = .ok (.ireturn, 1) := by decide +kernel
theorem dX12_on_0 : decode cX12_on 0 = .ok (.aload_n 0, 1) := by decide +kernel
theorem dX12_on_1 : decode cX12_on 1 = .ok (.iload_n 1, 1) := by decide +kernel
theorem dX12_on_2 : decode cX12_on 2 = .ok (.invokevirtual 83, 3) := by decide +kernel
theorem dX12_on_5 : decode cX12_on 5 = .ok (.ifCond .ne 7, 3) := by decide +kernel
theorem dX12_on_8 : decode cX12_on 8 = .ok (.ldc2_w 116, 3) := by decide +kernel
theorem dX12_on_11 : decode cX12_on 11 = .ok (.lreturn, 1) := by decide +kernel
theorem dX12_on_12 : decode cX12_on 12 = .ok (.aload_n 0, 1) := by decide +kernel
theorem dX12_on_13 : decode cX12_on 13 = .ok (.aload_n 0, 1) := by decide +kernel
theorem dX12_on_14 : decode cX12_on 14 = .ok (.getfield 35, 3) := by decide +kernel
theorem dX12_on_17 : decode cX12_on 17 = .ok (.iload_n 1, 1) := by decide +kernel
theorem dX12_on_18 : decode cX12_on 18 = .ok (.invokevirtual 166, 3) := by decide +kernel
theorem dX12_on_21 : decode cX12_on 21 = .ok (.iload_n 2, 1) := by decide +kernel
theorem dX12_on_22 : decode cX12_on 22 = .ok (.iconst 3, 1) := by decide +kernel
theorem dX12_on_23 : decode cX12_on 23 = .ok (.if_icmp .ne 14, 3) := by decide +kernel
theorem dX12_on_26 : decode cX12_on 26 = .ok (.aload_n 0, 1) := by decide +kernel
theorem dX12_on_27 : decode cX12_on 27 = .ok (.getfield 21, 3) := by decide +kernel
theorem dX12_on_30 : decode cX12_on 30 = .ok (.getfield 159, 3) := by decide +kernel
theorem dX12_on_33 : decode cX12_on 33 = .ok (.i2l, 1) := by decide +kernel
theorem dX12_on_34 : decode cX12_on 34 = .ok (.goto 11, 3) := by decide +kernel
theorem dX12_on_37 : decode cX12_on 37 = .ok (.aload_n 0, 1) := by decide +kernel
theorem dX12_on_38 : decode cX12_on 38 = .ok (.getfield 35, 3) := by decide +kernel
theorem dX12_on_41 : decode cX12_on 41 = .ok (.iload_n 2, 1) := by decide +kernel
theorem dX12_on_42 : decode cX12_on 42 = .ok (.invokestatic 134, 3) := by decide +kernel
theorem dX12_on_45 : decode cX12_on 45 = .ok (.lreturn, 1) := by decide +kernel
theorem dX12_tryLine_0 : decode cX12_tryLine 0 = .ok (.aload_n 1, 1) := by decide +kernel
theorem dX12_tryLine_1 : decode cX12_tryLine 1 = .ok (.aload_n 0, 1) := by decide +kernel
theorem dX12_tryLine_2 : decode cX12_tryLine 2 = .ok (.getfield 28, 3) := by decide +kernel
theorem dX12_tryLine_5 : decode cX12_tryLine 5 = .ok (.invokevirtual 169, 3) := by decide +kernel
theorem dX12_tryLine_8 : decode cX12_tryLine 8 = .ok (.aload_n 0, 1) := by decide +kernel
theorem dX12_tryLine_9 : decode cX12_tryLine 9 = .ok (.getfield 21, 3) := by decide +kernel
theorem dX12_tryLine_12 : decode cX12_tryLine 12 = .ok (.aload_n 1, 1) := by decide +kernel
theorem dX12_tryLine_13 : decode cX12_tryLine 13 = .ok (.iload_n 2, 1) := by decide +kernel
theorem dX12_tryLine_14 : decode cX12_tryLine 14 = .ok (.invokevirtual 121, 3) := by decide +kernel
theorem dX12_tryLine_17 : decode cX12_tryLine 17 = .ok (.return_, 1) := by decide +kernel
theorem dX12_tryLineWith_0 : decode cX12_tryLineWith 0 = .ok (.aload_n 0, 1) := by decide +kernel
theorem dX12_tryLineWith_1 : decode cX12_tryLineWith 1 = .ok (.getfield 35, 3) := by decide +kernel
theorem dX12_tryLineWith_4 : decode cX12_tryLineWith 4 = .ok (.aload_n 0, 1) := by decide +kernel
theorem dX12_tryLineWith_5 : decode cX12_tryLineWith 5 = .ok (.getfield 28, 3) := by decide +kernel
theorem dX12_tryLineWith_8 : decode cX12_tryLineWith 8 = .ok (.invokevirtual 169, 3) := by decide +kernel
theorem dX12_tryLineWith_11 : decode cX12_tryLineWith 11 = .ok (.aload_n 0, 1) := by decide +kernel
theorem dX12_tryLineWith_12 : decode cX12_tryLineWith 12 = .ok (.getfield 35, 3) := by decide +kernel
theorem dX12_tryLineWith_15 : decode cX12_tryLineWith 15 = .ok (.getfield 118, 3) := by decide +kernel
theorem dX12_tryLineWith_18 : decode cX12_tryLineWith 18 = .ok (.iload_n 2, 1) := by decide +kernel
theorem dX12_tryLineWith_19 : decode cX12_tryLineWith 19 = .ok (.iload_n 3, 1) := by decide +kernel
theorem dX12_tryLineWith_20 : decode cX12_tryLineWith 20 = .ok (.iastore, 1) := by decide +kernel
theorem dX12_tryLineWith_21 : decode cX12_tryLineWith 21 = .ok (.aload_n 0, 1) := by decide +kernel
theorem dX12_tryLineWith_22 : decode cX12_tryLineWith 22 = .ok (.getfield 21, 3) := by decide +kernel
theorem dX12_tryLineWith_25 : decode cX12_tryLineWith 25 = .ok (.aload_n 0, 1) := by decide +kernel
theorem dX12_tryLineWith_26 : decode cX12_tryLineWith 26 = .ok (.getfield 35, 3) := by decide +kernel
theorem dX12_tryLineWith_29 : decode cX12_tryLineWith 29 = .ok (.iload_n 1, 1) := by decide +kernel
theorem dX12_tryLineWith_30 : decode cX12_tryLineWith 30 = .ok (.invokevirtual 121, 3) := by decide +kernel
theorem dX12_tryLineWith_33 : decode cX12_tryLineWith 33 = .ok (.return_, 1) := by decide +kernel
theorem dX12_see_0 : decode cX12_see 0 = .ok (.iload_n 1, 1) := by decide +kernel
theorem dX12_see_1 : decode cX12_see 1 = .ok (.iconst (-1), 1) := by decide +kernel
theorem dX12_see_2 : decode cX12_see 2 = .ok (.if_icmp .ne 14, 3) := by decide +kernel
theorem dX12_see_5 : decode cX12_see 5 = .ok (.aload_n 0, 1) := by decide +kernel
theorem dX12_see_6 : decode cX12_see 6 = .ok (.getfield 28, 3) := by decide +kernel
theorem dX12_see_9 : decode cX12_see 9 = .ok (.getfield 173, 3) := by decide +kernel
theorem dX12_see_12 : decode cX12_see 12 = .ok (.invokevirtual 177, 3) := by decide +kernel
theorem dX12_see_15 : decode cX12_see 15 = .ok (.ireturn, 1) := by decide +kernel
theorem dX12_see_16 : decode cX12_see 16 = .ok (.iload_n 1, 1) := by decide +kernel
theorem dX12_see_17 : decode cX12_see 17 = .ok (.ifCond .lt 9, 3) := by decide +kernel
theorem dX12_see_20 : decode cX12_see 20 = .ok (.iload_n 1, 1) := by decide +kernel
theorem dX12_see_21 : decode cX12_see 21 = .ok (.bipush 60, 2) := by decide +kernel
theorem dX12_see_23 : decode cX12_see 23 = .ok (.if_icmp .lt 6, 3) := by decide +kernel
theorem dX12_see_26 : decode cX12_see 26 = .ok (.bipush (-2), 2) := by decide +kernel
theorem dX12_see_28 : decode cX12_see 28 = .ok (.ireturn, 1) := by decide +kernel
theorem dX12_see_29 : decode cX12_see 29 = .ok (.aload_n 0, 1) := by decide +kernel
theorem dX12_see_30 : decode cX12_see 30 = .ok (.getfield 28, 3) := by decide +kernel
theorem dX12_see_33 : decode cX12_see 33 = .ok (.getfield 173, 3) := by decide +kernel
theorem dX12_see_36 : decode cX12_see 36 = .ok (.iload_n 1, 1) := by decide +kernel
theorem dX12_see_37 : decode cX12_see 37 = .ok (.iload_n 2, 1) := by decide +kernel
theorem dX12_see_38 : decode cX12_see 38 = .ok (.invokevirtual 183, 3) := by decide +kernel
theorem dX12_see_41 : decode cX12_see 41 = .ok (.ireturn, 1) := by decide +kernel
theorem dX12_fits_0 : decode cX12_fits 0 = .ok (.aload_n 0, 1) := by decide +kernel
theorem dX12_fits_1 : decode cX12_fits 1 = .ok (.iload_n 1, 1) := by decide +kernel
theorem dX12_fits_2 : decode cX12_fits 2 = .ok (.invokevirtual 83, 3) := by decide +kernel
theorem dX12_fits_5 : decode cX12_fits 5 = .ok (.ifCond .eq 19, 3) := by decide +kernel
theorem dX12_fits_8 : decode cX12_fits 8 = .ok (.iload_n 2, 1) := by decide +kernel
theorem dX12_fits_9 : decode cX12_fits 9 = .ok (.invokestatic 113, 3) := by decide +kernel
theorem dX12_fits_12 : decode cX12_fits 12 = .ok (.ifCond .eq 12, 3) := by decide +kernel
theorem dX12_fits_15 : decode cX12_fits 15 = .ok (.iload_n 3, 1) := by decide +kernel
theorem dX12_fits_16 : decode cX12_fits 16 = .ok (.ifCond .lt 8, 3) := by decide +kernel
theorem dX12_fits_19 : decode cX12_fits 19 = .ok (.iload_n 3, 1) := by decide +kernel
theorem dX12_fits_20 : decode cX12_fits 20 = .ok (.iconst 1, 1) := by decide +kernel
theorem dX12_fits_21 : decode cX12_fits 21 = .ok (.if_icmp .le 5, 3) := by decide +kernel
theorem dX12_fits_24 : decode cX12_fits 24 = .ok (.iconst (-1), 1) := by decide +kernel
theorem dX12_fits_25 : decode cX12_fits 25 = .ok (.ireturn, 1) := by decide +kernel
theorem dX12_fits_26 : decode cX12_fits 26 = .ok (.iconst 0, 1) := by decide +kernel
theorem dX12_fits_27 : decode cX12_fits 27 = .ok (.istore 4, 2) := by decide +kernel
theorem dX12_fits_29 : decode cX12_fits 29 = .ok (.bipush (-5), 2) := by decide +kernel
theorem dX12_fits_31 : decode cX12_fits 31 = .ok (.istore 5, 2) := by decide +kernel
theorem dX12_fits_33 : decode cX12_fits 33 = .ok (.iconst 0, 1) := by decide +kernel
theorem dX12_fits_34 : decode cX12_fits 34 = .ok (.istore 6, 2) := by decide +kernel
theorem dX12_fits_36 : decode cX12_fits 36 = .ok (.iload 6, 2) := by decide +kernel
theorem dX12_fits_38 : decode cX12_fits 38 = .ok (.bipush 20, 2) := by decide +kernel
theorem dX12_fits_40 : decode cX12_fits 40 = .ok (.if_icmp .ge 45, 3) := by decide +kernel
theorem dX12_fits_43 : decode cX12_fits 43 = .ok (.aload_n 0, 1) := by decide +kernel
theorem dX12_fits_44 : decode cX12_fits 44 = .ok (.iload_n 1, 1) := by decide +kernel
theorem dX12_fits_45 : decode cX12_fits 45 = .ok (.iload_n 2, 1) := by decide +kernel
theorem dX12_fits_46 : decode cX12_fits 46 = .ok (.iload 6, 2) := by decide +kernel
theorem dX12_fits_48 : decode cX12_fits 48 = .ok (.invokevirtual 186, 3) := by decide +kernel
theorem dX12_fits_51 : decode cX12_fits 51 = .ok (.aload_n 0, 1) := by decide +kernel
theorem dX12_fits_52 : decode cX12_fits 52 = .ok (.aload_n 0, 1) := by decide +kernel
theorem dX12_fits_53 : decode cX12_fits 53 = .ok (.getfield 35, 3) := by decide +kernel
theorem dX12_fits_56 : decode cX12_fits 56 = .ok (.getfield 125, 3) := by decide +kernel
theorem dX12_fits_59 : decode cX12_fits 59 = .ok (.invokevirtual 190, 3) := by decide +kernel
theorem dX12_fits_62 : decode cX12_fits 62 = .ok (.ifCond .eq 17, 3) := by decide +kernel
theorem dX12_fits_65 : decode cX12_fits 65 = .ok (.iinc 4 1, 3) := by decide +kernel
theorem dX12_fits_68 : decode cX12_fits 68 = .ok (.iload 5, 2) := by decide +kernel
theorem dX12_fits_70 : decode cX12_fits 70 = .ok (.bipush (-5), 2) := by decide +kernel
theorem dX12_fits_72 : decode cX12_fits 72 = .ok (.if_icmp .ne 7, 3) := by decide +kernel
theorem dX12_fits_75 : decode cX12_fits 75 = .ok (.iload 6, 2) := by decide +kernel
theorem dX12_fits_77 : decode cX12_fits 77 = .ok (.istore 5, 2) := by decide +kernel
theorem dX12_fits_79 : decode cX12_fits 79 = .ok (.iinc 6 1, 3) := by decide +kernel
theorem dX12_fits_82 : decode cX12_fits 82 = .ok (.goto (-46), 3) := by decide +kernel
theorem dX12_fits_85 : decode cX12_fits 85 = .ok (.iload_n 3, 1) := by decide +kernel
theorem dX12_fits_86 : decode cX12_fits 86 = .ok (.ifCond .ne 8, 3) := by decide +kernel
theorem dX12_fits_89 : decode cX12_fits 89 = .ok (.iload 4, 2) := by decide +kernel
theorem dX12_fits_91 : decode cX12_fits 91 = .ok (.goto 5, 3) := by decide +kernel
theorem dX12_fits_94 : decode cX12_fits 94 = .ok (.iload 5, 2) := by decide +kernel
theorem dX12_fits_96 : decode cX12_fits 96 = .ok (.ireturn, 1) := by decide +kernel
theorem dX12_hasAllSeen_0 : decode cX12_hasAllSeen 0 = .ok (.iconst 0, 1) := by decide +kernel
theorem dX12_hasAllSeen_1 : decode cX12_hasAllSeen 1 = .ok (.istore_n 2, 1) := by decide +kernel
theorem dX12_hasAllSeen_2 : decode cX12_hasAllSeen 2 = .ok (.iload_n 2, 1) := by decide +kernel
theorem dX12_hasAllSeen_3 : decode cX12_hasAllSeen 3 = .ok (.aload_n 0, 1) := by decide +kernel
theorem dX12_hasAllSeen_4 : decode cX12_hasAllSeen 4 = .ok (.getfield 28, 3) := by decide +kernel
theorem dX12_hasAllSeen_7 : decode cX12_hasAllSeen 7 = .ok (.getfield 173, 3) := by decide +kernel
theorem dX12_hasAllSeen_10 : decode cX12_hasAllSeen 10 = .ok (.getfield 194, 3) := by decide +kernel
theorem dX12_hasAllSeen_13 : decode cX12_hasAllSeen 13 = .ok (.if_icmp .ge 44, 3) := by decide +kernel
theorem dX12_hasAllSeen_16 : decode cX12_hasAllSeen 16 = .ok (.aload_n 1, 1) := by decide +kernel
theorem dX12_hasAllSeen_17 : decode cX12_hasAllSeen 17 = .ok (.aload_n 0, 1) := by decide +kernel
theorem dX12_hasAllSeen_18 : decode cX12_hasAllSeen 18 = .ok (.getfield 28, 3) := by decide +kernel
theorem dX12_hasAllSeen_21 : decode cX12_hasAllSeen 21 = .ok (.getfield 173, 3) := by decide +kernel
theorem dX12_hasAllSeen_24 : decode cX12_hasAllSeen 24 = .ok (.getfield 195, 3) := by decide +kernel
theorem dX12_hasAllSeen_27 : decode cX12_hasAllSeen 27 = .ok (.iload_n 2, 1) := by decide +kernel
theorem dX12_hasAllSeen_28 : decode cX12_hasAllSeen 28 = .ok (.iaload, 1) := by decide +kernel
theorem dX12_hasAllSeen_29 : decode cX12_hasAllSeen 29 = .ok (.invokevirtual 144, 3) := by decide +kernel
theorem dX12_hasAllSeen_32 : decode cX12_hasAllSeen 32 = .ok (.aload_n 0, 1) := by decide +kernel
theorem dX12_hasAllSeen_33 : decode cX12_hasAllSeen 33 = .ok (.getfield 28, 3) := by decide +kernel
theorem dX12_hasAllSeen_36 : decode cX12_hasAllSeen 36 = .ok (.getfield 173, 3) := by decide +kernel
theorem dX12_hasAllSeen_39 : decode cX12_hasAllSeen 39 = .ok (.getfield 198, 3) := by decide +kernel
theorem dX12_hasAllSeen_42 : decode cX12_hasAllSeen 42 = .ok (.iload_n 2, 1) := by decide +kernel
theorem dX12_hasAllSeen_43 : decode cX12_hasAllSeen 43 = .ok (.iaload, 1) := by decide +kernel
theorem dX12_hasAllSeen_44 : decode cX12_hasAllSeen 44 = .ok (.i2l, 1) := by decide +kernel
theorem dX12_hasAllSeen_45 : decode cX12_hasAllSeen 45 = .ok (.lcmp, 1) := by decide +kernel
theorem dX12_hasAllSeen_46 : decode cX12_hasAllSeen 46 = .ok (.ifCond .eq 5, 3) := by decide +kernel
theorem dX12_hasAllSeen_49 : decode cX12_hasAllSeen 49 = .ok (.iconst 0, 1) := by decide +kernel
theorem dX12_hasAllSeen_50 : decode cX12_hasAllSeen 50 = .ok (.ireturn, 1) := by decide +kernel
theorem dX12_hasAllSeen_51 : decode cX12_hasAllSeen 51 = .ok (.iinc 2 1, 3) := by decide +kernel
theorem dX12_hasAllSeen_54 : decode cX12_hasAllSeen 54 = .ok (.goto (-52), 3) := by decide +kernel
theorem dX12_hasAllSeen_57 : decode cX12_hasAllSeen 57 = .ok (.iconst 1, 1) := by decide +kernel
theorem dX12_hasAllSeen_58 : decode cX12_hasAllSeen 58 = .ok (.ireturn, 1) := by decide +kernel
theorem dX12_alike_0 : decode cX12_alike 0 = .ok (.aload_n 0, 1) := by decide +kernel
theorem dX12_alike_1 : decode cX12_alike 1 = .ok (.iload_n 1, 1) := by decide +kernel
theorem dX12_alike_2 : decode cX12_alike 2 = .ok (.invokevirtual 83, 3) := by decide +kernel
theorem dX12_alike_5 : decode cX12_alike 5 = .ok (.ifCond .eq 11, 3) := by decide +kernel
theorem dX12_alike_8 : decode cX12_alike 8 = .ok (.aload_n 0, 1) := by decide +kernel
theorem dX12_alike_9 : decode cX12_alike 9 = .ok (.iload_n 2, 1) := by decide +kernel
theorem dX12_alike_10 : decode cX12_alike 10 = .ok (.invokevirtual 83, 3) := by decide +kernel
theorem dX12_alike_13 : decode cX12_alike 13 = .ok (.ifCond .ne 5, 3) := by decide +kernel
theorem dX12_alike_16 : decode cX12_alike 16 = .ok (.iconst (-1), 1) := by decide +kernel
theorem dX12_alike_17 : decode cX12_alike 17 = .ok (.ireturn, 1) := by decide +kernel
theorem dX12_alike_18 : decode cX12_alike 18 = .ok (.aload_n 0, 1) := by decide +kernel
theorem dX12_alike_19 : decode cX12_alike 19 = .ok (.aload_n 0, 1) := by decide +kernel
theorem dX12_alike_20 : decode cX12_alike 20 = .ok (.getfield 35, 3) := by decide +kernel
theorem dX12_alike_23 : decode cX12_alike 23 = .ok (.iload_n 1, 1) := by decide +kernel
theorem dX12_alike_24 : decode cX12_alike 24 = .ok (.invokevirtual 166, 3) := by decide +kernel
theorem dX12_alike_27 : decode cX12_alike 27 = .ok (.aload_n 0, 1) := by decide +kernel
theorem dX12_alike_28 : decode cX12_alike 28 = .ok (.aload_n 0, 1) := by decide +kernel
theorem dX12_alike_29 : decode cX12_alike 29 = .ok (.getfield 38, 3) := by decide +kernel
theorem dX12_alike_32 : decode cX12_alike 32 = .ok (.iload_n 2, 1) := by decide +kernel
theorem dX12_alike_33 : decode cX12_alike 33 = .ok (.invokevirtual 166, 3) := by decide +kernel
theorem dX12_alike_36 : decode cX12_alike 36 = .ok (.aload_n 0, 1) := by decide +kernel
theorem dX12_alike_37 : decode cX12_alike 37 = .ok (.getfield 35, 3) := by decide +kernel
theorem dX12_alike_40 : decode cX12_alike 40 = .ok (.getfield 138, 3) := by decide +kernel
theorem dX12_alike_43 : decode cX12_alike 43 = .ok (.aload_n 0, 1) := by decide +kernel
theorem dX12_alike_44 : decode cX12_alike 44 = .ok (.getfield 38, 3) := by decide +kernel
theorem dX12_alike_47 : decode cX12_alike 47 = .ok (.getfield 138, 3) := by decide +kernel
theorem dX12_alike_50 : decode cX12_alike 50 = .ok (.if_icmp .ne 27, 3) := by decide +kernel
theorem dX12_alike_53 : decode cX12_alike 53 = .ok (.aload_n 0, 1) := by decide +kernel
theorem dX12_alike_54 : decode cX12_alike 54 = .ok (.getfield 35, 3) := by decide +kernel
theorem dX12_alike_57 : decode cX12_alike 57 = .ok (.getfield 125, 3) := by decide +kernel
theorem dX12_alike_60 : decode cX12_alike 60 = .ok (.aload_n 0, 1) := by decide +kernel
theorem dX12_alike_61 : decode cX12_alike 61 = .ok (.getfield 38, 3) := by decide +kernel
theorem dX12_alike_64 : decode cX12_alike 64 = .ok (.getfield 125, 3) := by decide +kernel
theorem dX12_alike_67 : decode cX12_alike 67 = .ok (.invokevirtual 201, 3) := by decide +kernel
theorem dX12_alike_70 : decode cX12_alike 70 = .ok (.ifCond .eq 7, 3) := by decide +kernel
theorem dX12_alike_73 : decode cX12_alike 73 = .ok (.iconst 1, 1) := by decide +kernel
theorem dX12_alike_74 : decode cX12_alike 74 = .ok (.goto 4, 3) := by decide +kernel
theorem dX12_alike_77 : decode cX12_alike 77 = .ok (.iconst 0, 1) := by decide +kernel
theorem dX12_alike_78 : decode cX12_alike 78 = .ok (.istore_n 3, 1) := by decide +kernel
theorem dX12_alike_79 : decode cX12_alike 79 = .ok (.iload_n 3, 1) := by decide +kernel
theorem dX12_alike_80 : decode cX12_alike 80 = .ok (.ifCond .eq 7, 3) := by decide +kernel
theorem dX12_alike_83 : decode cX12_alike 83 = .ok (.iconst 1, 1) := by decide +kernel
theorem dX12_alike_84 : decode cX12_alike 84 = .ok (.goto 4, 3) := by decide +kernel
theorem dX12_alike_87 : decode cX12_alike 87 = .ok (.iconst 0, 1) := by decide +kernel
theorem dX12_alike_88 : decode cX12_alike 88 = .ok (.ireturn, 1) := by decide +kernel
theorem dX12_odds_0 : decode cX12_odds 0 = .ok (.aload_n 0, 1) := by decide +kernel
theorem dX12_odds_1 : decode cX12_odds 1 = .ok (.iload_n 1, 1) := by decide +kernel
theorem dX12_odds_2 : decode cX12_odds 2 = .ok (.invokevirtual 83, 3) := by decide +kernel
theorem dX12_odds_5 : decode cX12_odds 5 = .ok (.ifCond .eq 17, 3) := by decide +kernel
theorem dX12_odds_8 : decode cX12_odds 8 = .ok (.iload_n 2, 1) := by decide +kernel
theorem dX12_odds_9 : decode cX12_odds 9 = .ok (.invokestatic 113, 3) := by decide +kernel
theorem dX12_odds_12 : decode cX12_odds 12 = .ok (.ifCond .eq 10, 3) := by decide +kernel
theorem dX12_odds_15 : decode cX12_odds 15 = .ok (.iload_n 3, 1) := by decide +kernel
theorem dX12_odds_16 : decode cX12_odds 16 = .ok (.invokestatic 204, 3) := by decide +kernel
theorem dX12_odds_19 : decode cX12_odds 19 = .ok (.ifCond .ne 7, 3) := by decide +kernel
theorem dX12_odds_22 : decode cX12_odds 22 = .ok (.ldc2_w 116, 3) := by decide +kernel
theorem dX12_odds_25 : decode cX12_odds 25 = .ok (.lreturn, 1) := by decide +kernel
theorem dX12_odds_26 : decode cX12_odds 26 = .ok (.iconst 0, 1) := by decide +kernel
theorem dX12_odds_27 : decode cX12_odds 27 = .ok (.istore 4, 2) := by decide +kernel
theorem dX12_odds_29 : decode cX12_odds 29 = .ok (.iconst 0, 1) := by decide +kernel
theorem dX12_odds_30 : decode cX12_odds 30 = .ok (.istore 5, 2) := by decide +kernel
theorem dX12_odds_32 : decode cX12_odds 32 = .ok (.iload 5, 2) := by decide +kernel
theorem dX12_odds_34 : decode cX12_odds 34 = .ok (.bipush 10, 2) := by decide +kernel
theorem dX12_odds_36 : decode cX12_odds 36 = .ok (.if_icmp .ge 30, 3) := by decide +kernel
theorem dX12_odds_39 : decode cX12_odds 39 = .ok (.aload_n 0, 1) := by decide +kernel
theorem dX12_odds_40 : decode cX12_odds 40 = .ok (.iload_n 1, 1) := by decide +kernel
theorem dX12_odds_41 : decode cX12_odds 41 = .ok (.iload_n 2, 1) := by decide +kernel
theorem dX12_odds_42 : decode cX12_odds 42 = .ok (.iload 5, 2) := by decide +kernel
theorem dX12_odds_44 : decode cX12_odds 44 = .ok (.invokevirtual 186, 3) := by decide +kernel
theorem dX12_odds_47 : decode cX12_odds 47 = .ok (.aload_n 0, 1) := by decide +kernel
theorem dX12_odds_48 : decode cX12_odds 48 = .ok (.getfield 35, 3) := by decide +kernel
theorem dX12_odds_51 : decode cX12_odds 51 = .ok (.getfield 138, 3) := by decide +kernel
theorem dX12_odds_54 : decode cX12_odds 54 = .ok (.ifCond .ne 6, 3) := by decide +kernel
theorem dX12_odds_57 : decode cX12_odds 57 = .ok (.iinc 4 1, 3) := by decide +kernel
theorem dX12_odds_60 : decode cX12_odds 60 = .ok (.iinc 5 1, 3) := by decide +kernel
theorem dX12_odds_63 : decode cX12_odds 63 = .ok (.goto (-31), 3) := by decide +kernel
theorem dX12_odds_66 : decode cX12_odds 66 = .ok (.iload 4, 2) := by decide +kernel
theorem dX12_odds_68 : decode cX12_odds 68 = .ok (.i2l, 1) := by decide +kernel
theorem dX12_odds_69 : decode cX12_odds 69 = .ok (.bipush 10, 2) := by decide +kernel
theorem dX12_odds_71 : decode cX12_odds 71 = .ok (.iload_n 3, 1) := by decide +kernel
theorem dX12_odds_72 : decode cX12_odds 72 = .ok (.invokestatic 207, 3) := by decide +kernel
theorem dX12_odds_75 : decode cX12_odds 75 = .ok (.lreturn, 1) := by decide +kernel
theorem dX12_mean_0 : decode cX12_mean 0 = .ok (.aload_n 0, 1) := by decide +kernel
theorem dX12_mean_1 : decode cX12_mean 1 = .ok (.iload_n 1, 1) := by decide +kernel
theorem dX12_mean_2 : decode cX12_mean 2 = .ok (.invokevirtual 83, 3) := by decide +kernel
theorem dX12_mean_5 : decode cX12_mean 5 = .ok (.ifCond .eq 10, 3) := by decide +kernel
theorem dX12_mean_8 : decode cX12_mean 8 = .ok (.iload_n 2, 1) := by decide +kernel
theorem dX12_mean_9 : decode cX12_mean 9 = .ok (.invokestatic 204, 3) := by decide +kernel
theorem dX12_mean_12 : decode cX12_mean 12 = .ok (.ifCond .ne 7, 3) := by decide +kernel
theorem dX12_mean_15 : decode cX12_mean 15 = .ok (.ldc2_w 116, 3) := by decide +kernel
theorem dX12_mean_18 : decode cX12_mean 18 = .ok (.lreturn, 1) := by decide +kernel
theorem dX12_mean_19 : decode cX12_mean 19 = .ok (.aload_n 0, 1) := by decide +kernel
theorem dX12_mean_20 : decode cX12_mean 20 = .ok (.aload_n 0, 1) := by decide +kernel
theorem dX12_mean_21 : decode cX12_mean 21 = .ok (.getfield 35, 3) := by decide +kernel
theorem dX12_mean_24 : decode cX12_mean 24 = .ok (.iload_n 1, 1) := by decide +kernel
theorem dX12_mean_25 : decode cX12_mean 25 = .ok (.invokevirtual 166, 3) := by decide +kernel
theorem dX12_mean_28 : decode cX12_mean 28 = .ok (.aload_n 0, 1) := by decide +kernel
theorem dX12_mean_29 : decode cX12_mean 29 = .ok (.getfield 35, 3) := by decide +kernel
theorem dX12_mean_32 : decode cX12_mean 32 = .ok (.getfield 125, 3) := by decide +kernel
theorem dX12_mean_35 : decode cX12_mean 35 = .ok (.getfield 129, 3) := by decide +kernel
theorem dX12_mean_38 : decode cX12_mean 38 = .ok (.ifCond .ne 7, 3) := by decide +kernel
theorem dX12_mean_41 : decode cX12_mean 41 = .ok (.ldc2_w 116, 3) := by decide +kernel
theorem dX12_mean_44 : decode cX12_mean 44 = .ok (.lreturn, 1) := by decide +kernel
theorem dX12_mean_45 : decode cX12_mean 45 = .ok (.aload_n 0, 1) := by decide +kernel
theorem dX12_mean_46 : decode cX12_mean 46 = .ok (.getfield 35, 3) := by decide +kernel
theorem dX12_mean_49 : decode cX12_mean 49 = .ok (.getfield 125, 3) := by decide +kernel
theorem dX12_mean_52 : decode cX12_mean 52 = .ok (.invokevirtual 211, 3) := by decide +kernel
theorem dX12_mean_55 : decode cX12_mean 55 = .ok (.aload_n 0, 1) := by decide +kernel
theorem dX12_mean_56 : decode cX12_mean 56 = .ok (.getfield 35, 3) := by decide +kernel
theorem dX12_mean_59 : decode cX12_mean 59 = .ok (.getfield 125, 3) := by decide +kernel
theorem dX12_mean_62 : decode cX12_mean 62 = .ok (.getfield 129, 3) := by decide +kernel
theorem dX12_mean_65 : decode cX12_mean 65 = .ok (.iload_n 2, 1) := by decide +kernel
theorem dX12_mean_66 : decode cX12_mean 66 = .ok (.invokestatic 207, 3) := by decide +kernel
theorem dX12_mean_69 : decode cX12_mean 69 = .ok (.lreturn, 1) := by decide +kernel
theorem dX12_isPart_0 : decode cX12_isPart 0 = .ok (.iload_n 0, 1) := by decide +kernel
theorem dX12_isPart_1 : decode cX12_isPart 1 = .ok (.ifCond .eq 8, 3) := by decide +kernel
theorem dX12_isPart_4 : decode cX12_isPart 4 = .ok (.iload_n 0, 1) := by decide +kernel
theorem dX12_isPart_5 : decode cX12_isPart 5 = .ok (.iconst 1, 1) := by decide +kernel
theorem dX12_isPart_6 : decode cX12_isPart 6 = .ok (.if_icmp .ne 7, 3) := by decide +kernel
theorem dX12_isPart_9 : decode cX12_isPart 9 = .ok (.iconst 1, 1) := by decide +kernel
theorem dX12_isPart_10 : decode cX12_isPart 10 = .ok (.goto 4, 3) := by decide +kernel
theorem dX12_isPart_13 : decode cX12_isPart 13 = .ok (.iconst 0, 1) := by decide +kernel
theorem dX12_isPart_14 : decode cX12_isPart 14 = .ok (.ireturn, 1) := by decide +kernel
theorem dX12_lowest_0 : decode cX12_lowest 0 = .ok (.lconst 1, 1) := by decide +kernel
theorem dX12_lowest_1 : decode cX12_lowest 1 = .ok (.lstore 4, 2) := by decide +kernel
theorem dX12_lowest_3 : decode cX12_lowest 3 = .ok (.iload_n 2, 1) := by decide +kernel
theorem dX12_lowest_4 : decode cX12_lowest 4 = .ok (.istore 6, 2) := by decide +kernel
theorem dX12_lowest_6 : decode cX12_lowest 6 = .ok (.iload 6, 2) := by decide +kernel
theorem dX12_lowest_8 : decode cX12_lowest 8 = .ok (.iconst 1, 1) := by decide +kernel
theorem dX12_lowest_9 : decode cX12_lowest 9 = .ok (.if_icmp .le 38, 3) := by decide +kernel
theorem dX12_lowest_12 : decode cX12_lowest 12 = .ok (.lload 4, 2) := by decide +kernel
theorem dX12_lowest_14 : decode cX12_lowest 14 = .ok (.lconst 1, 1) := by decide +kernel
theorem dX12_lowest_15 : decode cX12_lowest 15 = .ok (.lcmp, 1) := by decide +kernel
theorem dX12_lowest_16 : decode cX12_lowest 16 = .ok (.ifCond .ne 31, 3) := by decide +kernel
theorem dX12_lowest_19 : decode cX12_lowest 19 = .ok (.lload_n 0, 1) := by decide +kernel
theorem dX12_lowest_20 : decode cX12_lowest 20 = .ok (.iload 6, 2) := by decide +kernel
theorem dX12_lowest_22 : decode cX12_lowest 22 = .ok (.i2l, 1) := by decide +kernel
theorem dX12_lowest_23 : decode cX12_lowest 23 = .ok (.lrem, 1) := by decide +kernel
theorem dX12_lowest_24 : decode cX12_lowest 24 = .ok (.lconst 0, 1) := by decide +kernel
theorem dX12_lowest_25 : decode cX12_lowest 25 = .ok (.lcmp, 1) := by decide +kernel
theorem dX12_lowest_26 : decode cX12_lowest 26 = .ok (.ifCond .ne 15, 3) := by decide +kernel
theorem dX12_lowest_29 : decode cX12_lowest 29 = .ok (.iload_n 2, 1) := by decide +kernel
theorem dX12_lowest_30 : decode cX12_lowest 30 = .ok (.iload 6, 2) := by decide +kernel
theorem dX12_lowest_32 : decode cX12_lowest 32 = .ok (.irem, 1) := by decide +kernel
theorem dX12_lowest_33 : decode cX12_lowest 33 = .ok (.ifCond .ne 8, 3) := by decide +kernel
theorem dX12_lowest_36 : decode cX12_lowest 36 = .ok (.iload 6, 2) := by decide +kernel
theorem dX12_lowest_38 : decode cX12_lowest 38 = .ok (.i2l, 1) := by decide +kernel
theorem dX12_lowest_39 : decode cX12_lowest 39 = .ok (.lstore 4, 2) := by decide +kernel
theorem dX12_lowest_41 : decode cX12_lowest 41 = .ok (.iinc 6 (-1), 3) := by decide +kernel
theorem dX12_lowest_44 : decode cX12_lowest 44 = .ok (.goto (-38), 3) := by decide +kernel
theorem dX12_lowest_47 : decode cX12_lowest 47 = .ok (.iload_n 3, 1) := by decide +kernel
theorem dX12_lowest_48 : decode cX12_lowest 48 = .ok (.ifCond .ne 10, 3) := by decide +kernel
theorem dX12_lowest_51 : decode cX12_lowest 51 = .ok (.lload_n 0, 1) := by decide +kernel
theorem dX12_lowest_52 : decode cX12_lowest 52 = .ok (.lload 4, 2) := by decide +kernel
theorem dX12_lowest_54 : decode cX12_lowest 54 = .ok (.ldiv, 1) := by decide +kernel
theorem dX12_lowest_55 : decode cX12_lowest 55 = .ok (.goto 8, 3) := by decide +kernel
theorem dX12_lowest_58 : decode cX12_lowest 58 = .ok (.iload_n 2, 1) := by decide +kernel
theorem dX12_lowest_59 : decode cX12_lowest 59 = .ok (.i2l, 1) := by decide +kernel
theorem dX12_lowest_60 : decode cX12_lowest 60 = .ok (.lload 4, 2) := by decide +kernel
theorem dX12_lowest_62 : decode cX12_lowest 62 = .ok (.ldiv, 1) := by decide +kernel
theorem dX12_lowest_63 : decode cX12_lowest 63 = .ok (.lreturn, 1) := by decide +kernel
theorem dX12_plan_0 : decode cX12_plan 0 = .ok (.iload_n 1, 1) := by decide +kernel
theorem dX12_plan_1 : decode cX12_plan 1 = .ok (.iconst (-1), 1) := by decide +kernel
theorem dX12_plan_2 : decode cX12_plan 2 = .ok (.if_icmp .ne 14, 3) := by decide +kernel
theorem dX12_plan_5 : decode cX12_plan 5 = .ok (.aload_n 0, 1) := by decide +kernel
theorem dX12_plan_6 : decode cX12_plan 6 = .ok (.getfield 28, 3) := by decide +kernel
theorem dX12_plan_9 : decode cX12_plan 9 = .ok (.getfield 215, 3) := by decide +kernel
theorem dX12_plan_12 : decode cX12_plan 12 = .ok (.invokevirtual 177, 3) := by decide +kernel
theorem dX12_plan_15 : decode cX12_plan 15 = .ok (.ireturn, 1) := by decide +kernel
theorem dX12_plan_16 : decode cX12_plan 16 = .ok (.aload_n 0, 1) := by decide +kernel
theorem dX12_plan_17 : decode cX12_plan 17 = .ok (.iload_n 1, 1) := by decide +kernel
theorem dX12_plan_18 : decode cX12_plan 18 = .ok (.iload_n 2, 1) := by decide +kernel
theorem dX12_plan_19 : decode cX12_plan 19 = .ok (.invokevirtual 218, 3) := by decide +kernel
theorem dX12_plan_22 : decode cX12_plan 22 = .ok (.ifCond .eq 18, 3) := by decide +kernel
theorem dX12_plan_25 : decode cX12_plan 25 = .ok (.aload_n 0, 1) := by decide +kernel
theorem dX12_plan_26 : decode cX12_plan 26 = .ok (.getfield 28, 3) := by decide +kernel
theorem dX12_plan_29 : decode cX12_plan 29 = .ok (.getfield 215, 3) := by decide +kernel
theorem dX12_plan_32 : decode cX12_plan 32 = .ok (.iload_n 1, 1) := by decide +kernel
theorem dX12_plan_33 : decode cX12_plan 33 = .ok (.iload_n 2, 1) := by decide +kernel
theorem dX12_plan_34 : decode cX12_plan 34 = .ok (.invokevirtual 183, 3) := by decide +kernel
theorem dX12_plan_37 : decode cX12_plan 37 = .ok (.goto 4, 3) := by decide +kernel
theorem dX12_plan_40 : decode cX12_plan 40 = .ok (.iconst (-1), 1) := by decide +kernel
theorem dX12_plan_41 : decode cX12_plan 41 = .ok (.ireturn, 1) := by decide +kernel
theorem dX12_isPlanned_0 : decode cX12_isPlanned 0 = .ok (.iload_n 1, 1) := by decide +kernel
theorem dX12_isPlanned_1 : decode cX12_isPlanned 1 = .ok (.tableswitch 49 0 3 #[31, 37, 42, 47], 31) := by decide +kernel
theorem dX12_isPlanned_32 : decode cX12_isPlanned 32 = .ok (.aload_n 0, 1) := by decide +kernel
theorem dX12_isPlanned_33 : decode cX12_isPlanned 33 = .ok (.iload_n 2, 1) := by decide +kernel
theorem dX12_isPlanned_34 : decode cX12_isPlanned 34 = .ok (.invokevirtual 83, 3) := by decide +kernel
theorem dX12_isPlanned_37 : decode cX12_isPlanned 37 = .ok (.ireturn, 1) := by decide +kernel
theorem dX12_isPlanned_38 : decode cX12_isPlanned 38 = .ok (.iload_n 2, 1) := by decide +kernel
theorem dX12_isPlanned_39 : decode cX12_isPlanned 39 = .ok (.invokestatic 113, 3) := by decide +kernel
theorem dX12_isPlanned_42 : decode cX12_isPlanned 42 = .ok (.ireturn, 1) := by decide +kernel
theorem dX12_isPlanned_43 : decode cX12_isPlanned 43 = .ok (.iload_n 2, 1) := by decide +kernel
theorem dX12_isPlanned_44 : decode cX12_isPlanned 44 = .ok (.invokestatic 101, 3) := by decide +kernel
theorem dX12_isPlanned_47 : decode cX12_isPlanned 47 = .ok (.ireturn, 1) := by decide +kernel
theorem dX12_isPlanned_48 : decode cX12_isPlanned 48 = .ok (.iconst 1, 1) := by decide +kernel
theorem dX12_isPlanned_49 : decode cX12_isPlanned 49 = .ok (.ireturn, 1) := by decide +kernel
theorem dX12_isPlanned_50 : decode cX12_isPlanned 50 = .ok (.iconst 0, 1) := by decide +kernel
theorem dX12_isPlanned_51 : decode cX12_isPlanned 51 = .ok (.ireturn, 1) := by decide +kernel
theorem dX12_ends_0 : decode cX12_ends 0 = .ok (.iload_n 1, 1) := by decide +kernel
theorem dX12_ends_1 : decode cX12_ends 1 = .ok (.invokestatic 113, 3) := by decide +kernel
theorem dX12_ends_4 : decode cX12_ends 4 = .ok (.ifCond .ne 7, 3) := by decide +kernel
theorem dX12_ends_7 : decode cX12_ends 7 = .ok (.ldc2_w 116, 3) := by decide +kernel
theorem dX12_ends_10 : decode cX12_ends 10 = .ok (.lreturn, 1) := by decide +kernel
theorem dX12_ends_11 : decode cX12_ends 11 = .ok (.aload_n 0, 1) := by decide +kernel
theorem dX12_ends_12 : decode cX12_ends 12 = .ok (.getfield 35, 3) := by decide +kernel
theorem dX12_ends_15 : decode cX12_ends 15 = .ok (.aload_n 0, 1) := by decide +kernel
theorem dX12_ends_16 : decode cX12_ends 16 = .ok (.getfield 28, 3) := by decide +kernel
theorem dX12_ends_19 : decode cX12_ends 19 = .ok (.invokevirtual 169, 3) := by decide +kernel
theorem dX12_ends_22 : decode cX12_ends 22 = .ok (.iconst 0, 1) := by decide +kernel
theorem dX12_ends_23 : decode cX12_ends 23 = .ok (.istore_n 2, 1) := by decide +kernel
theorem dX12_ends_24 : decode cX12_ends 24 = .ok (.iload_n 2, 1) := by decide +kernel
theorem dX12_ends_25 : decode cX12_ends 25 = .ok (.aload_n 0, 1) := by decide +kernel
theorem dX12_ends_26 : decode cX12_ends 26 = .ok (.getfield 28, 3) := by decide +kernel
theorem dX12_ends_29 : decode cX12_ends 29 = .ok (.getfield 215, 3) := by decide +kernel
theorem dX12_ends_32 : decode cX12_ends 32 = .ok (.getfield 194, 3) := by decide +kernel
theorem dX12_ends_35 : decode cX12_ends 35 = .ok (.if_icmp .ge 37, 3) := by decide +kernel
theorem dX12_ends_38 : decode cX12_ends 38 = .ok (.aload_n 0, 1) := by decide +kernel
theorem dX12_ends_39 : decode cX12_ends 39 = .ok (.aload_n 0, 1) := by decide +kernel
theorem dX12_ends_40 : decode cX12_ends 40 = .ok (.getfield 28, 3) := by decide +kernel
theorem dX12_ends_43 : decode cX12_ends 43 = .ok (.getfield 215, 3) := by decide +kernel
theorem dX12_ends_46 : decode cX12_ends 46 = .ok (.getfield 195, 3) := by decide +kernel
theorem dX12_ends_49 : decode cX12_ends 49 = .ok (.iload_n 2, 1) := by decide +kernel
theorem dX12_ends_50 : decode cX12_ends 50 = .ok (.iaload, 1) := by decide +kernel
theorem dX12_ends_51 : decode cX12_ends 51 = .ok (.aload_n 0, 1) := by decide +kernel
theorem dX12_ends_52 : decode cX12_ends 52 = .ok (.getfield 28, 3) := by decide +kernel
theorem dX12_ends_55 : decode cX12_ends 55 = .ok (.getfield 215, 3) := by decide +kernel
theorem dX12_ends_58 : decode cX12_ends 58 = .ok (.getfield 198, 3) := by decide +kernel
theorem dX12_ends_61 : decode cX12_ends 61 = .ok (.iload_n 2, 1) := by decide +kernel
theorem dX12_ends_62 : decode cX12_ends 62 = .ok (.iaload, 1) := by decide +kernel
theorem dX12_ends_63 : decode cX12_ends 63 = .ok (.invokevirtual 222, 3) := by decide +kernel
theorem dX12_ends_66 : decode cX12_ends 66 = .ok (.iinc 2 1, 3) := by decide +kernel
theorem dX12_ends_69 : decode cX12_ends 69 = .ok (.goto (-45), 3) := by decide +kernel
theorem dX12_ends_72 : decode cX12_ends 72 = .ok (.aload_n 0, 1) := by decide +kernel
theorem dX12_ends_73 : decode cX12_ends 73 = .ok (.getfield 35, 3) := by decide +kernel
theorem dX12_ends_76 : decode cX12_ends 76 = .ok (.getfield 118, 3) := by decide +kernel
theorem dX12_ends_79 : decode cX12_ends 79 = .ok (.iload_n 1, 1) := by decide +kernel
theorem dX12_ends_80 : decode cX12_ends 80 = .ok (.iaload, 1) := by decide +kernel
theorem dX12_ends_81 : decode cX12_ends 81 = .ok (.i2l, 1) := by decide +kernel
theorem dX12_ends_82 : decode cX12_ends 82 = .ok (.lreturn, 1) := by decide +kernel
theorem dX12_carryOut_0 : decode cX12_carryOut 0 = .ok (.iload_n 1, 1) := by decide +kernel
theorem dX12_carryOut_1 : decode cX12_carryOut 1 = .ok (.ifCond .ne 26, 3) := by decide +kernel
theorem dX12_carryOut_4 : decode cX12_carryOut 4 = .ok (.aload_n 0, 1) := by decide +kernel
theorem dX12_carryOut_5 : decode cX12_carryOut 5 = .ok (.iload_n 2, 1) := by decide +kernel
theorem dX12_carryOut_6 : decode cX12_carryOut 6 = .ok (.invokevirtual 83, 3) := by decide +kernel
theorem dX12_carryOut_9 : decode cX12_carryOut 9 = .ok (.ifCond .eq 18, 3) := by decide +kernel
theorem dX12_carryOut_12 : decode cX12_carryOut 12 = .ok (.aload_n 0, 1) := by decide +kernel
theorem dX12_carryOut_13 : decode cX12_carryOut 13 = .ok (.getfield 21, 3) := by decide +kernel
theorem dX12_carryOut_16 : decode cX12_carryOut 16 = .ok (.aload_n 0, 1) := by decide +kernel
theorem dX12_carryOut_17 : decode cX12_carryOut 17 = .ok (.getfield 35, 3) := by decide +kernel
theorem dX12_carryOut_20 : decode cX12_carryOut 20 = .ok (.iload_n 2, 1) := by decide +kernel
theorem dX12_carryOut_21 : decode cX12_carryOut 21 = .ok (.invokevirtual 121, 3) := by decide +kernel
theorem dX12_carryOut_24 : decode cX12_carryOut 24 = .ok (.goto 68, 3) := by decide +kernel
theorem dX12_carryOut_27 : decode cX12_carryOut 27 = .ok (.iload_n 1, 1) := by decide +kernel
theorem dX12_carryOut_28 : decode cX12_carryOut 28 = .ok (.iconst 1, 1) := by decide +kernel
theorem dX12_carryOut_29 : decode cX12_carryOut 29 = .ok (.if_icmp .ne 23, 3) := by decide +kernel
theorem dX12_carryOut_32 : decode cX12_carryOut 32 = .ok (.iload_n 2, 1) := by decide +kernel
theorem dX12_carryOut_33 : decode cX12_carryOut 33 = .ok (.invokestatic 113, 3) := by decide +kernel
theorem dX12_carryOut_36 : decode cX12_carryOut 36 = .ok (.ifCond .eq 16, 3) := by decide +kernel
theorem dX12_carryOut_39 : decode cX12_carryOut 39 = .ok (.aload_n 0, 1) := by decide +kernel
theorem dX12_carryOut_40 : decode cX12_carryOut 40 = .ok (.getfield 35, 3) := by decide +kernel
theorem dX12_carryOut_43 : decode cX12_carryOut 43 = .ok (.getfield 118, 3) := by decide +kernel
theorem dX12_carryOut_46 : decode cX12_carryOut 46 = .ok (.iload_n 2, 1) := by decide +kernel
theorem dX12_carryOut_47 : decode cX12_carryOut 47 = .ok (.iconst 0, 1) := by decide +kernel
theorem dX12_carryOut_48 : decode cX12_carryOut 48 = .ok (.iastore, 1) := by decide +kernel
theorem dX12_carryOut_49 : decode cX12_carryOut 49 = .ok (.goto 43, 3) := by decide +kernel
theorem dX12_carryOut_52 : decode cX12_carryOut 52 = .ok (.iload_n 1, 1) := by decide +kernel
theorem dX12_carryOut_53 : decode cX12_carryOut 53 = .ok (.iconst 2, 1) := by decide +kernel
theorem dX12_carryOut_54 : decode cX12_carryOut 54 = .ok (.if_icmp .ne 24, 3) := by decide +kernel
theorem dX12_carryOut_57 : decode cX12_carryOut 57 = .ok (.iload_n 2, 1) := by decide +kernel
theorem dX12_carryOut_58 : decode cX12_carryOut 58 = .ok (.invokestatic 101, 3) := by decide +kernel
theorem dX12_carryOut_61 : decode cX12_carryOut 61 = .ok (.ifCond .eq 17, 3) := by decide +kernel
theorem dX12_carryOut_64 : decode cX12_carryOut 64 = .ok (.aload_n 0, 1) := by decide +kernel
theorem dX12_carryOut_65 : decode cX12_carryOut 65 = .ok (.getfield 35, 3) := by decide +kernel
theorem dX12_carryOut_68 : decode cX12_carryOut 68 = .ok (.getfield 107, 3) := by decide +kernel
theorem dX12_carryOut_71 : decode cX12_carryOut 71 = .ok (.iload_n 2, 1) := by decide +kernel
theorem dX12_carryOut_72 : decode cX12_carryOut 72 = .ok (.bipush (-5), 2) := by decide +kernel
theorem dX12_carryOut_74 : decode cX12_carryOut 74 = .ok (.iastore, 1) := by decide +kernel
theorem dX12_carryOut_75 : decode cX12_carryOut 75 = .ok (.goto 17, 3) := by decide +kernel
theorem dX12_carryOut_78 : decode cX12_carryOut 78 = .ok (.iload_n 1, 1) := by decide +kernel
theorem dX12_carryOut_79 : decode cX12_carryOut 79 = .ok (.iconst 3, 1) := by decide +kernel
theorem dX12_carryOut_80 : decode cX12_carryOut 80 = .ok (.if_icmp .ne 12, 3) := by decide +kernel
theorem dX12_carryOut_83 : decode cX12_carryOut 83 = .ok (.aload_n 0, 1) := by decide +kernel
theorem dX12_carryOut_84 : decode cX12_carryOut 84 = .ok (.getfield 35, 3) := by decide +kernel
theorem dX12_carryOut_87 : decode cX12_carryOut 87 = .ok (.bipush (-5), 2) := by decide +kernel
theorem dX12_carryOut_89 : decode cX12_carryOut 89 = .ok (.putfield 110, 3) := by decide +kernel
theorem dX12_carryOut_92 : decode cX12_carryOut 92 = .ok (.return_, 1) := by decide +kernel
theorem dX12_book_0 : decode cX12_book 0 = .ok (.iload_n 1, 1) := by decide +kernel
theorem dX12_book_1 : decode cX12_book 1 = .ok (.iconst (-1), 1) := by decide +kernel
theorem dX12_book_2 : decode cX12_book 2 = .ok (.if_icmp .ne 14, 3) := by decide +kernel
theorem dX12_book_5 : decode cX12_book 5 = .ok (.aload_n 0, 1) := by decide +kernel
theorem dX12_book_6 : decode cX12_book 6 = .ok (.getfield 28, 3) := by decide +kernel
theorem dX12_book_9 : decode cX12_book 9 = .ok (.getfield 226, 3) := by decide +kernel
theorem dX12_book_12 : decode cX12_book 12 = .ok (.invokevirtual 177, 3) := by decide +kernel
theorem dX12_book_15 : decode cX12_book 15 = .ok (.ireturn, 1) := by decide +kernel
theorem dX12_book_16 : decode cX12_book 16 = .ok (.iload_n 1, 1) := by decide +kernel
theorem dX12_book_17 : decode cX12_book 17 = .ok (.invokestatic 113, 3) := by decide +kernel
theorem dX12_book_20 : decode cX12_book 20 = .ok (.ifCond .eq 18, 3) := by decide +kernel
theorem dX12_book_23 : decode cX12_book 23 = .ok (.aload_n 0, 1) := by decide +kernel
theorem dX12_book_24 : decode cX12_book 24 = .ok (.getfield 28, 3) := by decide +kernel
theorem dX12_book_27 : decode cX12_book 27 = .ok (.getfield 226, 3) := by decide +kernel
theorem dX12_book_30 : decode cX12_book 30 = .ok (.iload_n 1, 1) := by decide +kernel
theorem dX12_book_31 : decode cX12_book 31 = .ok (.iload_n 2, 1) := by decide +kernel
theorem dX12_book_32 : decode cX12_book 32 = .ok (.invokevirtual 183, 3) := by decide +kernel
theorem dX12_book_35 : decode cX12_book 35 = .ok (.goto 4, 3) := by decide +kernel
theorem dX12_book_38 : decode cX12_book 38 = .ok (.iconst (-1), 1) := by decide +kernel
theorem dX12_book_39 : decode cX12_book 39 = .ok (.ireturn, 1) := by decide +kernel
theorem dX12_looked_0 : decode cX12_looked 0 = .ok (.iconst 0, 1) := by decide +kernel
theorem dX12_looked_1 : decode cX12_looked 1 = .ok (.istore_n 1, 1) := by decide +kernel
theorem dX12_looked_2 : decode cX12_looked 2 = .ok (.iload_n 1, 1) := by decide +kernel
theorem dX12_looked_3 : decode cX12_looked 3 = .ok (.aload_n 0, 1) := by decide +kernel
theorem dX12_looked_4 : decode cX12_looked 4 = .ok (.getfield 28, 3) := by decide +kernel
theorem dX12_looked_7 : decode cX12_looked 7 = .ok (.getfield 226, 3) := by decide +kernel
theorem dX12_looked_10 : decode cX12_looked 10 = .ok (.getfield 194, 3) := by decide +kernel
theorem dX12_looked_13 : decode cX12_looked 13 = .ok (.if_icmp .ge 55, 3) := by decide +kernel
theorem dX12_looked_16 : decode cX12_looked 16 = .ok (.aload_n 0, 1) := by decide +kernel
theorem dX12_looked_17 : decode cX12_looked 17 = .ok (.getfield 28, 3) := by decide +kernel
theorem dX12_looked_20 : decode cX12_looked 20 = .ok (.getfield 226, 3) := by decide +kernel
theorem dX12_looked_23 : decode cX12_looked 23 = .ok (.getfield 195, 3) := by decide +kernel
theorem dX12_looked_26 : decode cX12_looked 26 = .ok (.iload_n 1, 1) := by decide +kernel
theorem dX12_looked_27 : decode cX12_looked 27 = .ok (.iaload, 1) := by decide +kernel
theorem dX12_looked_28 : decode cX12_looked 28 = .ok (.istore_n 2, 1) := by decide +kernel
theorem dX12_looked_29 : decode cX12_looked 29 = .ok (.iload_n 2, 1) := by decide +kernel
theorem dX12_looked_30 : decode cX12_looked 30 = .ok (.invokestatic 113, 3) := by decide +kernel
theorem dX12_looked_33 : decode cX12_looked 33 = .ok (.ifCond .eq 29, 3) := by decide +kernel
theorem dX12_looked_36 : decode cX12_looked 36 = .ok (.aload_n 0, 1) := by decide +kernel
theorem dX12_looked_37 : decode cX12_looked 37 = .ok (.getfield 28, 3) := by decide +kernel
theorem dX12_looked_40 : decode cX12_looked 40 = .ok (.getfield 118, 3) := by decide +kernel
theorem dX12_looked_43 : decode cX12_looked 43 = .ok (.iload_n 2, 1) := by decide +kernel
theorem dX12_looked_44 : decode cX12_looked 44 = .ok (.iaload, 1) := by decide +kernel
theorem dX12_looked_45 : decode cX12_looked 45 = .ok (.aload_n 0, 1) := by decide +kernel
theorem dX12_looked_46 : decode cX12_looked 46 = .ok (.getfield 28, 3) := by decide +kernel
theorem dX12_looked_49 : decode cX12_looked 49 = .ok (.getfield 226, 3) := by decide +kernel
theorem dX12_looked_52 : decode cX12_looked 52 = .ok (.getfield 198, 3) := by decide +kernel
theorem dX12_looked_55 : decode cX12_looked 55 = .ok (.iload_n 1, 1) := by decide +kernel
theorem dX12_looked_56 : decode cX12_looked 56 = .ok (.iaload, 1) := by decide +kernel
theorem dX12_looked_57 : decode cX12_looked 57 = .ok (.if_icmp .eq 5, 3) := by decide +kernel
theorem dX12_looked_60 : decode cX12_looked 60 = .ok (.iload_n 1, 1) := by decide +kernel
theorem dX12_looked_61 : decode cX12_looked 61 = .ok (.ireturn, 1) := by decide +kernel
theorem dX12_looked_62 : decode cX12_looked 62 = .ok (.iinc 1 1, 3) := by decide +kernel
theorem dX12_looked_65 : decode cX12_looked 65 = .ok (.goto (-63), 3) := by decide +kernel
theorem dX12_looked_68 : decode cX12_looked 68 = .ok (.bipush (-5), 2) := by decide +kernel
theorem dX12_looked_70 : decode cX12_looked 70 = .ok (.ireturn, 1) := by decide +kernel
theorem dX12_judge_0 : decode cX12_judge 0 = .ok (.iload_n 1, 1) := by decide +kernel
theorem dX12_judge_1 : decode cX12_judge 1 = .ok (.invokestatic 229, 3) := by decide +kernel
theorem dX12_judge_4 : decode cX12_judge 4 = .ok (.ifCond .ne 5, 3) := by decide +kernel
theorem dX12_judge_7 : decode cX12_judge 7 = .ok (.iconst (-1), 1) := by decide +kernel
theorem dX12_judge_8 : decode cX12_judge 8 = .ok (.ireturn, 1) := by decide +kernel
theorem dX12_judge_9 : decode cX12_judge 9 = .ok (.aload_n 0, 1) := by decide +kernel
theorem dX12_judge_10 : decode cX12_judge 10 = .ok (.getfield 56, 3) := by decide +kernel
theorem dX12_judge_13 : decode cX12_judge 13 = .ok (.iload_n 1, 1) := by decide +kernel
theorem dX12_judge_14 : decode cX12_judge 14 = .ok (.aaload, 1) := by decide +kernel
theorem dX12_judge_15 : decode cX12_judge 15 = .ok (.astore_n 3, 1) := by decide +kernel
theorem dX12_judge_16 : decode cX12_judge 16 = .ok (.aload_n 3, 1) := by decide +kernel
theorem dX12_judge_17 : decode cX12_judge 17 = .ok (.getfield 232, 3) := by decide +kernel
theorem dX12_judge_20 : decode cX12_judge 20 = .ok (.ifCond .lt 14, 3) := by decide +kernel
theorem dX12_judge_23 : decode cX12_judge 23 = .ok (.aload_n 3, 1) := by decide +kernel
theorem dX12_judge_24 : decode cX12_judge 24 = .ok (.getfield 232, 3) := by decide +kernel
theorem dX12_judge_27 : decode cX12_judge 27 = .ok (.iconst 2, 1) := by decide +kernel
theorem dX12_judge_28 : decode cX12_judge 28 = .ok (.if_icmp .eq 6, 3) := by decide +kernel
theorem dX12_judge_31 : decode cX12_judge 31 = .ok (.bipush (-12), 2) := by decide +kernel
theorem dX12_judge_33 : decode cX12_judge 33 = .ok (.ireturn, 1) := by decide +kernel
theorem dX12_judge_34 : decode cX12_judge 34 = .ok (.aload_n 0, 1) := by decide +kernel
theorem dX12_judge_35 : decode cX12_judge 35 = .ok (.getfield 28, 3) := by decide +kernel
theorem dX12_judge_38 : decode cX12_judge 38 = .ok (.getfield 125, 3) := by decide +kernel
theorem dX12_judge_41 : decode cX12_judge 41 = .ok (.getfield 129, 3) := by decide +kernel
theorem dX12_judge_44 : decode cX12_judge 44 = .ok (.ifCond .ne 6, 3) := by decide +kernel
theorem dX12_judge_47 : decode cX12_judge 47 = .ok (.bipush (-5), 2) := by decide +kernel
theorem dX12_judge_49 : decode cX12_judge 49 = .ok (.ireturn, 1) := by decide +kernel
theorem dX12_judge_50 : decode cX12_judge 50 = .ok (.iconst 0, 1) := by decide +kernel
theorem dX12_judge_51 : decode cX12_judge 51 = .ok (.istore 4, 2) := by decide +kernel
theorem dX12_judge_53 : decode cX12_judge 53 = .ok (.iload 4, 2) := by decide +kernel
theorem dX12_judge_55 : decode cX12_judge 55 = .ok (.aload_n 0, 1) := by decide +kernel
theorem dX12_judge_56 : decode cX12_judge 56 = .ok (.getfield 28, 3) := by decide +kernel
theorem dX12_judge_59 : decode cX12_judge 59 = .ok (.getfield 125, 3) := by decide +kernel
theorem dX12_judge_62 : decode cX12_judge 62 = .ok (.getfield 129, 3) := by decide +kernel
theorem dX12_judge_65 : decode cX12_judge 65 = .ok (.if_icmp .ge 58, 3) := by decide +kernel
theorem dX12_judge_68 : decode cX12_judge 68 = .ok (.iload_n 2, 1) := by decide +kernel
theorem dX12_judge_69 : decode cX12_judge 69 = .ok (.ifCond .lt 14, 3) := by decide +kernel
theorem dX12_judge_72 : decode cX12_judge 72 = .ok (.iload_n 2, 1) := by decide +kernel
theorem dX12_judge_73 : decode cX12_judge 73 = .ok (.aload_n 3, 1) := by decide +kernel
theorem dX12_judge_74 : decode cX12_judge 74 = .ok (.getfield 235, 3) := by decide +kernel
theorem dX12_judge_77 : decode cX12_judge 77 = .ok (.iload 4, 2) := by decide +kernel
theorem dX12_judge_79 : decode cX12_judge 79 = .ok (.isub, 1) := by decide +kernel
theorem dX12_judge_80 : decode cX12_judge 80 = .ok (.if_icmp .lt 9, 3) := by decide +kernel
theorem dX12_judge_83 : decode cX12_judge 83 = .ok (.bipush 100, 2) := by decide +kernel
theorem dX12_judge_85 : decode cX12_judge 85 = .ok (.iload 4, 2) := by decide +kernel
theorem dX12_judge_87 : decode cX12_judge 87 = .ok (.iadd, 1) := by decide +kernel
theorem dX12_judge_88 : decode cX12_judge 88 = .ok (.ireturn, 1) := by decide +kernel
theorem dX12_judge_89 : decode cX12_judge 89 = .ok (.aload_n 3, 1) := by decide +kernel
theorem dX12_judge_90 : decode cX12_judge 90 = .ok (.getfield 236, 3) := by decide +kernel
theorem dX12_judge_93 : decode cX12_judge 93 = .ok (.iload_n 2, 1) := by decide +kernel
theorem dX12_judge_94 : decode cX12_judge 94 = .ok (.iload 4, 2) := by decide +kernel
theorem dX12_judge_96 : decode cX12_judge 96 = .ok (.iadd, 1) := by decide +kernel
theorem dX12_judge_97 : decode cX12_judge 97 = .ok (.laload, 1) := by decide +kernel
theorem dX12_judge_98 : decode cX12_judge 98 = .ok (.aload_n 0, 1) := by decide +kernel
theorem dX12_judge_99 : decode cX12_judge 99 = .ok (.getfield 28, 3) := by decide +kernel
theorem dX12_judge_102 : decode cX12_judge 102 = .ok (.getfield 125, 3) := by decide +kernel
theorem dX12_judge_105 : decode cX12_judge 105 = .ok (.iload 4, 2) := by decide +kernel
theorem dX12_judge_107 : decode cX12_judge 107 = .ok (.invokevirtual 144, 3) := by decide +kernel
theorem dX12_judge_110 : decode cX12_judge 110 = .ok (.lcmp, 1) := by decide +kernel
theorem dX12_judge_111 : decode cX12_judge 111 = .ok (.ifCond .eq 6, 3) := by decide +kernel
theorem dX12_judge_114 : decode cX12_judge 114 = .ok (.iload 4, 2) := by decide +kernel
theorem dX12_judge_116 : decode cX12_judge 116 = .ok (.ireturn, 1) := by decide +kernel
theorem dX12_judge_117 : decode cX12_judge 117 = .ok (.iinc 4 1, 3) := by decide +kernel
theorem dX12_judge_120 : decode cX12_judge 120 = .ok (.goto (-67), 3) := by decide +kernel
theorem dX12_judge_123 : decode cX12_judge 123 = .ok (.bipush (-5), 2) := by decide +kernel
theorem dX12_judge_125 : decode cX12_judge 125 = .ok (.ireturn, 1) := by decide +kernel
theorem dX12_image_0 : decode cX12_image 0 = .ok (.aload_n 0, 1) := by decide +kernel
theorem dX12_image_1 : decode cX12_image 1 = .ok (.getfield 32, 3) := by decide +kernel
theorem dX12_image_4 : decode cX12_image 4 = .ok (.aload_n 0, 1) := by decide +kernel
theorem dX12_image_5 : decode cX12_image 5 = .ok (.getfield 28, 3) := by decide +kernel
theorem dX12_image_8 : decode cX12_image 8 = .ok (.invokevirtual 169, 3) := by decide +kernel
theorem dX12_image_11 : decode cX12_image 11 = .ok (.aload_n 0, 1) := by decide +kernel
theorem dX12_image_12 : decode cX12_image 12 = .ok (.iconst 1, 1) := by decide +kernel
theorem dX12_image_13 : decode cX12_image 13 = .ok (.putfield 240, 3) := by decide +kernel
theorem dX12_image_16 : decode cX12_image 16 = .ok (.aload_n 0, 1) := by decide +kernel
theorem dX12_image_17 : decode cX12_image 17 = .ok (.getfield 21, 3) := by decide +kernel
theorem dX12_image_20 : decode cX12_image 20 = .ok (.getfield 70, 3) := by decide +kernel
theorem dX12_image_23 : decode cX12_image 23 = .ok (.ireturn, 1) := by decide +kernel
theorem dX12_undo_0 : decode cX12_undo 0 = .ok (.aload_n 0, 1) := by decide +kernel
theorem dX12_undo_1 : decode cX12_undo 1 = .ok (.getfield 240, 3) := by decide +kernel
theorem dX12_undo_4 : decode cX12_undo 4 = .ok (.ifCond .ne 6, 3) := by decide +kernel
theorem dX12_undo_7 : decode cX12_undo 7 = .ok (.bipush (-3), 2) := by decide +kernel
theorem dX12_undo_9 : decode cX12_undo 9 = .ok (.ireturn, 1) := by decide +kernel
theorem dX12_undo_10 : decode cX12_undo 10 = .ok (.aload_n 0, 1) := by decide +kernel
theorem dX12_undo_11 : decode cX12_undo 11 = .ok (.getfield 28, 3) := by decide +kernel
theorem dX12_undo_14 : decode cX12_undo 14 = .ok (.aload_n 0, 1) := by decide +kernel
theorem dX12_undo_15 : decode cX12_undo 15 = .ok (.getfield 32, 3) := by decide +kernel
theorem dX12_undo_18 : decode cX12_undo 18 = .ok (.invokevirtual 169, 3) := by decide +kernel
theorem dX12_undo_21 : decode cX12_undo 21 = .ok (.aload_n 0, 1) := by decide +kernel
theorem dX12_undo_22 : decode cX12_undo 22 = .ok (.getfield 21, 3) := by decide +kernel
theorem dX12_undo_25 : decode cX12_undo 25 = .ok (.getfield 70, 3) := by decide +kernel
theorem dX12_undo_28 : decode cX12_undo 28 = .ok (.ireturn, 1) := by decide +kernel
theorem dX12_count_0 : decode cX12_count 0 = .ok (.iload_n 1, 1) := by decide +kernel
theorem dX12_count_1 : decode cX12_count 1 = .ok (.tableswitch 93 0 5 #[39, 47, 52, 63, 74, 85], 39) := by decide +kernel
theorem dX12_count_40 : decode cX12_count 40 = .ok (.aload_n 0, 1) := by decide +kernel
theorem dX12_count_41 : decode cX12_count 41 = .ok (.getfield 21, 3) := by decide +kernel
theorem dX12_count_44 : decode cX12_count 44 = .ok (.getfield 70, 3) := by decide +kernel
theorem dX12_count_47 : decode cX12_count 47 = .ok (.ireturn, 1) := by decide +kernel
theorem dX12_count_48 : decode cX12_count 48 = .ok (.aload_n 0, 1) := by decide +kernel
theorem dX12_count_49 : decode cX12_count 49 = .ok (.invokevirtual 244, 3) := by decide +kernel
theorem dX12_count_52 : decode cX12_count 52 = .ok (.ireturn, 1) := by decide +kernel
theorem dX12_count_53 : decode cX12_count 53 = .ok (.aload_n 0, 1) := by decide +kernel
theorem dX12_count_54 : decode cX12_count 54 = .ok (.getfield 28, 3) := by decide +kernel
theorem dX12_count_57 : decode cX12_count 57 = .ok (.getfield 173, 3) := by decide +kernel
theorem dX12_count_60 : decode cX12_count 60 = .ok (.getfield 194, 3) := by decide +kernel
theorem dX12_count_63 : decode cX12_count 63 = .ok (.ireturn, 1) := by decide +kernel
theorem dX12_count_64 : decode cX12_count 64 = .ok (.aload_n 0, 1) := by decide +kernel
theorem dX12_count_65 : decode cX12_count 65 = .ok (.getfield 28, 3) := by decide +kernel
theorem dX12_count_68 : decode cX12_count 68 = .ok (.getfield 215, 3) := by decide +kernel
theorem dX12_count_71 : decode cX12_count 71 = .ok (.getfield 194, 3) := by decide +kernel
theorem dX12_count_74 : decode cX12_count 74 = .ok (.ireturn, 1) := by decide +kernel
theorem dX12_count_75 : decode cX12_count 75 = .ok (.aload_n 0, 1) := by decide +kernel
theorem dX12_count_76 : decode cX12_count 76 = .ok (.getfield 28, 3) := by decide +kernel
theorem dX12_count_79 : decode cX12_count 79 = .ok (.getfield 226, 3) := by decide +kernel
theorem dX12_count_82 : decode cX12_count 82 = .ok (.getfield 194, 3) := by decide +kernel
theorem dX12_count_85 : decode cX12_count 85 = .ok (.ireturn, 1) := by decide +kernel
theorem dX12_count_86 : decode cX12_count 86 = .ok (.aload_n 0, 1) := by decide +kernel
theorem dX12_count_87 : decode cX12_count 87 = .ok (.getfield 14, 3) := by decide +kernel
theorem dX12_count_90 : decode cX12_count 90 = .ok (.getfield 66, 3) := by decide +kernel
theorem dX12_count_93 : decode cX12_count 93 = .ok (.ireturn, 1) := by decide +kernel
theorem dX12_count_94 : decode cX12_count 94 = .ok (.bipush (-2), 2) := by decide +kernel
theorem dX12_count_96 : decode cX12_count 96 = .ok (.ireturn, 1) := by decide +kernel
theorem dX12_jobCount_0 : decode cX12_jobCount 0 = .ok (.iconst 0, 1) := by decide +kernel
theorem dX12_jobCount_1 : decode cX12_jobCount 1 = .ok (.istore_n 1, 1) := by decide +kernel
theorem dX12_jobCount_2 : decode cX12_jobCount 2 = .ok (.iconst 0, 1) := by decide +kernel
theorem dX12_jobCount_3 : decode cX12_jobCount 3 = .ok (.istore_n 2, 1) := by decide +kernel
theorem dX12_jobCount_4 : decode cX12_jobCount 4 = .ok (.iload_n 2, 1) := by decide +kernel
theorem dX12_jobCount_5 : decode cX12_jobCount 5 = .ok (.iconst 4, 1) := by decide +kernel
theorem dX12_jobCount_6 : decode cX12_jobCount 6 = .ok (.if_icmp .ge 20, 3) := by decide +kernel
theorem dX12_jobCount_9 : decode cX12_jobCount 9 = .ok (.aload_n 0, 1) := by decide +kernel
theorem dX12_jobCount_10 : decode cX12_jobCount 10 = .ok (.iload_n 2, 1) := by decide +kernel
theorem dX12_jobCount_11 : decode cX12_jobCount 11 = .ok (.invokevirtual 156, 3) := by decide +kernel
theorem dX12_jobCount_14 : decode cX12_jobCount 14 = .ok (.ifCond .eq 6, 3) := by decide +kernel
theorem dX12_jobCount_17 : decode cX12_jobCount 17 = .ok (.iinc 1 1, 3) := by decide +kernel
theorem dX12_jobCount_20 : decode cX12_jobCount 20 = .ok (.iinc 2 1, 3) := by decide +kernel
theorem dX12_jobCount_23 : decode cX12_jobCount 23 = .ok (.goto (-19), 3) := by decide +kernel
theorem dX12_jobCount_26 : decode cX12_jobCount 26 = .ok (.iload_n 1, 1) := by decide +kernel
theorem dX12_jobCount_27 : decode cX12_jobCount 27 = .ok (.ireturn, 1) := by decide +kernel
theorem dX12_tape_0 : decode cX12_tape 0 = .ok (.iload_n 1, 1) := by decide +kernel
theorem dX12_tape_1 : decode cX12_tape 1 = .ok (.invokestatic 229, 3) := by decide +kernel
theorem dX12_tape_4 : decode cX12_tape 4 = .ok (.ifCond .ne 5, 3) := by decide +kernel
theorem dX12_tape_7 : decode cX12_tape 7 = .ok (.iconst (-1), 1) := by decide +kernel
theorem dX12_tape_8 : decode cX12_tape 8 = .ok (.ireturn, 1) := by decide +kernel
theorem dX12_tape_9 : decode cX12_tape 9 = .ok (.iload_n 2, 1) := by decide +kernel
theorem dX12_tape_10 : decode cX12_tape 10 = .ok (.iconst (-1), 1) := by decide +kernel
theorem dX12_tape_11 : decode cX12_tape 11 = .ok (.if_icmp .ne 15, 3) := by decide +kernel
theorem dX12_tape_14 : decode cX12_tape 14 = .ok (.aload_n 0, 1) := by decide +kernel
theorem dX12_tape_15 : decode cX12_tape 15 = .ok (.getfield 56, 3) := by decide +kernel
theorem dX12_tape_18 : decode cX12_tape 18 = .ok (.iload_n 1, 1) := by decide +kernel
theorem dX12_tape_19 : decode cX12_tape 19 = .ok (.aaload, 1) := by decide +kernel
theorem dX12_tape_20 : decode cX12_tape 20 = .ok (.iconst (-1), 1) := by decide +kernel
theorem dX12_tape_21 : decode cX12_tape 21 = .ok (.iconst 0, 1) := by decide +kernel
theorem dX12_tape_22 : decode cX12_tape 22 = .ok (.invokevirtual 247, 3) := by decide +kernel
theorem dX12_tape_25 : decode cX12_tape 25 = .ok (.ireturn, 1) := by decide +kernel
theorem dX12_tape_26 : decode cX12_tape 26 = .ok (.iload_n 2, 1) := by decide +kernel
theorem dX12_tape_27 : decode cX12_tape 27 = .ok (.ifCond .lt 14, 3) := by decide +kernel
theorem dX12_tape_30 : decode cX12_tape 30 = .ok (.iload_n 2, 1) := by decide +kernel
theorem dX12_tape_31 : decode cX12_tape 31 = .ok (.iconst 4, 1) := by decide +kernel
theorem dX12_tape_32 : decode cX12_tape 32 = .ok (.if_icmp .gt 9, 3) := by decide +kernel
theorem dX12_tape_35 : decode cX12_tape 35 = .ok (.iload_n 3, 1) := by decide +kernel
theorem dX12_tape_36 : decode cX12_tape 36 = .ok (.bipush 60, 2) := by decide +kernel
theorem dX12_tape_38 : decode cX12_tape 38 = .ok (.if_icmp .le 6, 3) := by decide +kernel
theorem dX12_tape_41 : decode cX12_tape 41 = .ok (.bipush (-2), 2) := by decide +kernel
theorem dX12_tape_43 : decode cX12_tape 43 = .ok (.ireturn, 1) := by decide +kernel
theorem dX12_tape_44 : decode cX12_tape 44 = .ok (.iload_n 3, 1) := by decide +kernel
theorem dX12_tape_45 : decode cX12_tape 45 = .ok (.ifCond .ge 8, 3) := by decide +kernel
theorem dX12_tape_48 : decode cX12_tape 48 = .ok (.bipush (-14), 2) := by decide +kernel
theorem dX12_tape_50 : decode cX12_tape 50 = .ok (.goto 14, 3) := by decide +kernel
theorem dX12_tape_53 : decode cX12_tape 53 = .ok (.aload_n 0, 1) := by decide +kernel
theorem dX12_tape_54 : decode cX12_tape 54 = .ok (.getfield 56, 3) := by decide +kernel
theorem dX12_tape_57 : decode cX12_tape 57 = .ok (.iload_n 1, 1) := by decide +kernel
theorem dX12_tape_58 : decode cX12_tape 58 = .ok (.aaload, 1) := by decide +kernel
theorem dX12_tape_59 : decode cX12_tape 59 = .ok (.iload_n 2, 1) := by decide +kernel
theorem dX12_tape_60 : decode cX12_tape 60 = .ok (.iload_n 3, 1) := by decide +kernel
theorem dX12_tape_61 : decode cX12_tape 61 = .ok (.invokevirtual 247, 3) := by decide +kernel
theorem dX12_tape_64 : decode cX12_tape 64 = .ok (.ireturn, 1) := by decide +kernel
theorem dX12_item_0 : decode cX12_item 0 = .ok (.iload_n 1, 1) := by decide +kernel
theorem dX12_item_1 : decode cX12_item 1 = .ok (.invokestatic 229, 3) := by decide +kernel
theorem dX12_item_4 : decode cX12_item 4 = .ok (.ifCond .ne 5, 3) := by decide +kernel
theorem dX12_item_7 : decode cX12_item 7 = .ok (.iconst (-1), 1) := by decide +kernel
theorem dX12_item_8 : decode cX12_item 8 = .ok (.ireturn, 1) := by decide +kernel
theorem dX12_item_9 : decode cX12_item 9 = .ok (.aload_n 0, 1) := by decide +kernel
theorem dX12_item_10 : decode cX12_item 10 = .ok (.getfield 56, 3) := by decide +kernel
theorem dX12_item_13 : decode cX12_item 13 = .ok (.iload_n 1, 1) := by decide +kernel
theorem dX12_item_14 : decode cX12_item 14 = .ok (.aaload, 1) := by decide +kernel
theorem dX12_item_15 : decode cX12_item 15 = .ok (.astore 5, 2) := by decide +kernel
theorem dX12_item_17 : decode cX12_item 17 = .ok (.aload 5, 2) := by decide +kernel
theorem dX12_item_19 : decode cX12_item 19 = .ok (.getfield 232, 3) := by decide +kernel
theorem dX12_item_22 : decode cX12_item 22 = .ok (.ifCond .ge 6, 3) := by decide +kernel
theorem dX12_item_25 : decode cX12_item 25 = .ok (.bipush (-11), 2) := by decide +kernel
theorem dX12_item_27 : decode cX12_item 27 = .ok (.ireturn, 1) := by decide +kernel
theorem dX12_item_28 : decode cX12_item 28 = .ok (.iload_n 2, 1) := by decide +kernel
theorem dX12_item_29 : decode cX12_item 29 = .ok (.ifCond .lt 12, 3) := by decide +kernel
theorem dX12_item_32 : decode cX12_item 32 = .ok (.iload_n 2, 1) := by decide +kernel
theorem dX12_item_33 : decode cX12_item 33 = .ok (.aload 5, 2) := by decide +kernel
theorem dX12_item_35 : decode cX12_item 35 = .ok (.getfield 235, 3) := by decide +kernel
theorem dX12_item_38 : decode cX12_item 38 = .ok (.if_icmp .lt 6, 3) := by decide +kernel
theorem dX12_item_41 : decode cX12_item 41 = .ok (.bipush (-13), 2) := by decide +kernel
theorem dX12_item_43 : decode cX12_item 43 = .ok (.ireturn, 1) := by decide +kernel
theorem dX12_item_44 : decode cX12_item 44 = .ok (.aload 5, 2) := by decide +kernel
theorem dX12_item_46 : decode cX12_item 46 = .ok (.getfield 236, 3) := by decide +kernel
theorem dX12_item_49 : decode cX12_item 49 = .ok (.iload_n 2, 1) := by decide +kernel
theorem dX12_item_50 : decode cX12_item 50 = .ok (.aload 5, 2) := by decide +kernel
theorem dX12_item_52 : decode cX12_item 52 = .ok (.lload_n 3, 1) := by decide +kernel
theorem dX12_item_53 : decode cX12_item 53 = .ok (.invokevirtual 250, 3) := by decide +kernel
theorem dX12_item_56 : decode cX12_item 56 = .ok (.lastore, 1) := by decide +kernel
theorem dX12_item_57 : decode cX12_item 57 = .ok (.iconst 1, 1) := by decide +kernel
theorem dX12_item_58 : decode cX12_item 58 = .ok (.ireturn, 1) := by decide +kernel
theorem dX12_read_0 : decode cX12_read 0 = .ok (.iload_n 1, 1) := by decide +kernel
theorem dX12_read_1 : decode cX12_read 1 = .ok (.invokestatic 229, 3) := by decide +kernel
theorem dX12_read_4 : decode cX12_read 4 = .ok (.ifCond .eq 20, 3) := by decide +kernel
theorem dX12_read_7 : decode cX12_read 7 = .ok (.iload_n 2, 1) := by decide +kernel
theorem dX12_read_8 : decode cX12_read 8 = .ok (.ifCond .lt 16, 3) := by decide +kernel
theorem dX12_read_11 : decode cX12_read 11 = .ok (.iload_n 2, 1) := by decide +kernel
theorem dX12_read_12 : decode cX12_read 12 = .ok (.aload_n 0, 1) := by decide +kernel
theorem dX12_read_13 : decode cX12_read 13 = .ok (.getfield 56, 3) := by decide +kernel
theorem dX12_read_16 : decode cX12_read 16 = .ok (.iload_n 1, 1) := by decide +kernel
theorem dX12_read_17 : decode cX12_read 17 = .ok (.aaload, 1) := by decide +kernel
theorem dX12_read_18 : decode cX12_read 18 = .ok (.getfield 235, 3) := by decide +kernel
theorem dX12_read_21 : decode cX12_read 21 = .ok (.if_icmp .lt 7, 3) := by decide +kernel
theorem dX12_read_24 : decode cX12_read 24 = .ok (.ldc2_w 116, 3) := by decide +kernel
theorem dX12_read_27 : decode cX12_read 27 = .ok (.lreturn, 1) := by decide +kernel
theorem dX12_read_28 : decode cX12_read 28 = .ok (.aload_n 0, 1) := by decide +kernel
theorem dX12_read_29 : decode cX12_read 29 = .ok (.getfield 56, 3) := by decide +kernel
theorem dX12_read_32 : decode cX12_read 32 = .ok (.iload_n 1, 1) := by decide +kernel
theorem dX12_read_33 : decode cX12_read 33 = .ok (.aaload, 1) := by decide +kernel
theorem dX12_read_34 : decode cX12_read 34 = .ok (.getfield 236, 3) := by decide +kernel
theorem dX12_read_37 : decode cX12_read 37 = .ok (.iload_n 2, 1) := by decide +kernel
theorem dX12_read_38 : decode cX12_read 38 = .ok (.laload, 1) := by decide +kernel
theorem dX12_read_39 : decode cX12_read 39 = .ok (.lreturn, 1) := by decide +kernel
theorem dX12_shift_0 : decode cX12_shift 0 = .ok (.iload_n 1, 1) := by decide +kernel
theorem dX12_shift_1 : decode cX12_shift 1 = .ok (.invokestatic 229, 3) := by decide +kernel
theorem dX12_shift_4 : decode cX12_shift 4 = .ok (.ifCond .eq 10, 3) := by decide +kernel
theorem dX12_shift_7 : decode cX12_shift 7 = .ok (.iload_n 3, 1) := by decide +kernel
theorem dX12_shift_8 : decode cX12_shift 8 = .ok (.invokestatic 229, 3) := by decide +kernel
theorem dX12_shift_11 : decode cX12_shift 11 = .ok (.ifCond .ne 5, 3) := by decide +kernel
theorem dX12_shift_14 : decode cX12_shift 14 = .ok (.iconst (-1), 1) := by decide +kernel
theorem dX12_shift_15 : decode cX12_shift 15 = .ok (.ireturn, 1) := by decide +kernel
theorem dX12_shift_16 : decode cX12_shift 16 = .ok (.aload_n 0, 1) := by decide +kernel
theorem dX12_shift_17 : decode cX12_shift 17 = .ok (.getfield 56, 3) := by decide +kernel
theorem dX12_shift_20 : decode cX12_shift 20 = .ok (.iload_n 1, 1) := by decide +kernel
theorem dX12_shift_21 : decode cX12_shift 21 = .ok (.aaload, 1) := by decide +kernel
theorem dX12_shift_22 : decode cX12_shift 22 = .ok (.astore 6, 2) := by decide +kernel
theorem dX12_shift_24 : decode cX12_shift 24 = .ok (.aload_n 0, 1) := by decide +kernel
theorem dX12_shift_25 : decode cX12_shift 25 = .ok (.getfield 56, 3) := by decide +kernel
theorem dX12_shift_28 : decode cX12_shift 28 = .ok (.iload_n 3, 1) := by decide +kernel
theorem dX12_shift_29 : decode cX12_shift 29 = .ok (.aaload, 1) := by decide +kernel
theorem dX12_shift_30 : decode cX12_shift 30 = .ok (.astore 7, 2) := by decide +kernel
theorem dX12_shift_32 : decode cX12_shift 32 = .ok (.aload 6, 2) := by decide +kernel
theorem dX12_shift_34 : decode cX12_shift 34 = .ok (.getfield 232, 3) := by decide +kernel
theorem dX12_shift_37 : decode cX12_shift 37 = .ok (.ifCond .lt 11, 3) := by decide +kernel
theorem dX12_shift_40 : decode cX12_shift 40 = .ok (.aload 7, 2) := by decide +kernel
theorem dX12_shift_42 : decode cX12_shift 42 = .ok (.getfield 232, 3) := by decide +kernel
theorem dX12_shift_45 : decode cX12_shift 45 = .ok (.ifCond .ge 6, 3) := by decide +kernel
theorem dX12_shift_48 : decode cX12_shift 48 = .ok (.bipush (-11), 2) := by decide +kernel
theorem dX12_shift_50 : decode cX12_shift 50 = .ok (.ireturn, 1) := by decide +kernel
theorem dX12_shift_51 : decode cX12_shift 51 = .ok (.aload 6, 2) := by decide +kernel
theorem dX12_shift_53 : decode cX12_shift 53 = .ok (.getfield 232, 3) := by decide +kernel
theorem dX12_shift_56 : decode cX12_shift 56 = .ok (.aload 7, 2) := by decide +kernel
theorem dX12_shift_58 : decode cX12_shift 58 = .ok (.getfield 232, 3) := by decide +kernel
theorem dX12_shift_61 : decode cX12_shift 61 = .ok (.if_icmp .eq 6, 3) := by decide +kernel
theorem dX12_shift_64 : decode cX12_shift 64 = .ok (.bipush (-12), 2) := by decide +kernel
theorem dX12_shift_66 : decode cX12_shift 66 = .ok (.ireturn, 1) := by decide +kernel
theorem dX12_shift_67 : decode cX12_shift 67 = .ok (.aload 6, 2) := by decide +kernel
theorem dX12_shift_69 : decode cX12_shift 69 = .ok (.iload_n 2, 1) := by decide +kernel
theorem dX12_shift_70 : decode cX12_shift 70 = .ok (.iload 5, 2) := by decide +kernel
theorem dX12_shift_72 : decode cX12_shift 72 = .ok (.invokevirtual 254, 3) := by decide +kernel
theorem dX12_shift_75 : decode cX12_shift 75 = .ok (.ifCond .eq 15, 3) := by decide +kernel
theorem dX12_shift_78 : decode cX12_shift 78 = .ok (.aload 7, 2) := by decide +kernel
theorem dX12_shift_80 : decode cX12_shift 80 = .ok (.iload 4, 2) := by decide +kernel
theorem dX12_shift_82 : decode cX12_shift 82 = .ok (.iload 5, 2) := by decide +kernel
theorem dX12_shift_84 : decode cX12_shift 84 = .ok (.invokevirtual 254, 3) := by decide +kernel
theorem dX12_shift_87 : decode cX12_shift 87 = .ok (.ifCond .ne 6, 3) := by decide +kernel
theorem dX12_shift_90 : decode cX12_shift 90 = .ok (.bipush (-13), 2) := by decide +kernel
theorem dX12_shift_92 : decode cX12_shift 92 = .ok (.ireturn, 1) := by decide +kernel
theorem dX12_shift_93 : decode cX12_shift 93 = .ok (.aload 6, 2) := by decide +kernel
theorem dX12_shift_95 : decode cX12_shift 95 = .ok (.getfield 236, 3) := by decide +kernel
theorem dX12_shift_98 : decode cX12_shift 98 = .ok (.iload_n 2, 1) := by decide +kernel
theorem dX12_shift_99 : decode cX12_shift 99 = .ok (.aload 7, 2) := by decide +kernel
theorem dX12_shift_101 : decode cX12_shift 101 = .ok (.getfield 236, 3) := by decide +kernel
theorem dX12_shift_104 : decode cX12_shift 104 = .ok (.iload 4, 2) := by decide +kernel
theorem dX12_shift_106 : decode cX12_shift 106 = .ok (.iload 5, 2) := by decide +kernel
theorem dX12_shift_108 : decode cX12_shift 108 = .ok (.invokestatic 257, 3) := by decide +kernel
theorem dX12_shift_111 : decode cX12_shift 111 = .ok (.iload 5, 2) := by decide +kernel
theorem dX12_shift_113 : decode cX12_shift 113 = .ok (.ireturn, 1) := by decide +kernel
theorem dX12_isTape_0 : decode cX12_isTape 0 = .ok (.iload_n 0, 1) := by decide +kernel
theorem dX12_isTape_1 : decode cX12_isTape 1 = .ok (.ifCond .lt 13, 3) := by decide +kernel
theorem dX12_isTape_4 : decode cX12_isTape 4 = .ok (.iload_n 0, 1) := by decide +kernel
theorem dX12_isTape_5 : decode cX12_isTape 5 = .ok (.bipush 6, 2) := by decide +kernel
theorem dX12_isTape_7 : decode cX12_isTape 7 = .ok (.if_icmp .ge 7, 3) := by decide +kernel
theorem dX12_isTape_10 : decode cX12_isTape 10 = .ok (.iconst 1, 1) := by decide +kernel
theorem dX12_isTape_11 : decode cX12_isTape 11 = .ok (.goto 4, 3) := by decide +kernel
theorem dX12_isTape_14 : decode cX12_isTape 14 = .ok (.iconst 0, 1) := by decide +kernel
theorem dX12_isTape_15 : decode cX12_isTape 15 = .ok (.ireturn, 1) := by decide +kernel
theorem dJx29ce0_ordinal_8abf5_0 : decode cJx29ce0_ordinal_8abf5 0 = .ok (.aload_n 0, 1) := by decide +kernel
theorem dJx29ce0_ordinal_8abf5_1 : decode cJx29ce0_ordinal_8abf5 1 = .ok (.getfield 7, 3) := by decide +kernel
theorem dJx29ce0_ordinal_8abf5_4 : decode cJx29ce0_ordinal_8abf5 4 = .ok (.ireturn, 1) := by decide +kernel
theorem dJ9_max_7cf53_0 : decode cJ9_max_7cf53 0 = .ok (.iload_n 0, 1) := by decide +kernel
theorem dJ9_max_7cf53_1 : decode cJ9_max_7cf53 1 = .ok (.iload_n 1, 1) := by decide +kernel
theorem dJ9_max_7cf53_2 : decode cJ9_max_7cf53 2 = .ok (.if_icmp .lt 7, 3) := by decide +kernel
theorem dJ9_max_7cf53_5 : decode cJ9_max_7cf53 5 = .ok (.iload_n 0, 1) := by decide +kernel
theorem dJ9_max_7cf53_6 : decode cJ9_max_7cf53 6 = .ok (.goto 4, 3) := by decide +kernel
theorem dJ9_max_7cf53_9 : decode cJ9_max_7cf53 9 = .ok (.iload_n 1, 1) := by decide +kernel
theorem dJ9_max_7cf53_10 : decode cJ9_max_7cf53 10 = .ok (.ireturn, 1) := by decide +kernel
theorem dJ9_min_7cf53_0 : decode cJ9_min_7cf53 0 = .ok (.iload_n 0, 1) := by decide +kernel
theorem dJ9_min_7cf53_1 : decode cJ9_min_7cf53 1 = .ok (.iload_n 1, 1) := by decide +kernel
theorem dJ9_min_7cf53_2 : decode cJ9_min_7cf53 2 = .ok (.if_icmp .gt 7, 3) := by decide +kernel
theorem dJ9_min_7cf53_5 : decode cJ9_min_7cf53 5 = .ok (.iload_n 0, 1) := by decide +kernel
theorem dJ9_min_7cf53_6 : decode cJ9_min_7cf53 6 = .ok (.goto 4, 3) := by decide +kernel
theorem dJ9_min_7cf53_9 : decode cJ9_min_7cf53 9 = .ok (.iload_n 1, 1) := by decide +kernel
theorem dJ9_min_7cf53_10 : decode cJ9_min_7cf53 10 = .ok (.ireturn, 1) := by decide +kernel
theorem dJ0_length_8abf5_0 : decode cJ0_length_8abf5 0 = .ok (.aload_n 0, 1) := by decide +kernel
theorem dJ0_length_8abf5_1 : decode cJ0_length_8abf5 1 = .ok (.getfield 9, 3) := by decide +kernel
theorem dJ0_length_8abf5_4 : decode cJ0_length_8abf5 4 = .ok (.arraylength, 1) := by decide +kernel
theorem dJ0_length_8abf5_5 : decode cJ0_length_8abf5 5 = .ok (.aload_n 0, 1) := by decide +kernel
theorem dJ0_length_8abf5_6 : decode cJ0_length_8abf5 6 = .ok (.invokevirtual 335, 3) := by decide +kernel
theorem dJ0_length_8abf5_9 : decode cJ0_length_8abf5 9 = .ok (.ishr, 1) := by decide +kernel
theorem dJ0_length_8abf5_10 : decode cJ0_length_8abf5 10 = .ok (.ireturn, 1) := by decide +kernel
theorem dJ0_charAt_5068e_0 : decode cJ0_charAt_5068e 0 = .ok (.aload_n 0, 1) := by decide +kernel
theorem dJ0_charAt_5068e_1 : decode cJ0_charAt_5068e 1 = .ok (.invokevirtual 492, 3) := by decide +kernel
theorem dJ0_charAt_5068e_4 : decode cJ0_charAt_5068e 4 = .ok (.ifCond .eq 12, 3) := by decide +kernel
theorem dJ0_charAt_5068e_7 : decode cJ0_charAt_5068e 7 = .ok (.aload_n 0, 1) := by decide +kernel
theorem dJ0_charAt_5068e_8 : decode cJ0_charAt_5068e 8 = .ok (.getfield 9, 3) := by decide +kernel
theorem dJ0_charAt_5068e_11 : decode cJ0_charAt_5068e 11 = .ok (.iload_n 1, 1) := by decide +kernel
theorem dJ0_charAt_5068e_12 : decode cJ0_charAt_5068e 12 = .ok (.invokestatic 495, 3) := by decide +kernel
theorem dJ0_charAt_5068e_15 : decode cJ0_charAt_5068e 15 = .ok (.ireturn, 1) := by decide +kernel
theorem dJ0_charAt_5068e_16 : decode cJ0_charAt_5068e 16 = .ok (.aload_n 0, 1) := by decide +kernel
theorem dJ0_charAt_5068e_17 : decode cJ0_charAt_5068e 17 = .ok (.getfield 9, 3) := by decide +kernel
theorem dJ0_charAt_5068e_20 : decode cJ0_charAt_5068e 20 = .ok (.iload_n 1, 1) := by decide +kernel
theorem dJ0_charAt_5068e_21 : decode cJ0_charAt_5068e 21 = .ok (.invokestatic 498, 3) := by decide +kernel
theorem dJ0_charAt_5068e_24 : decode cJ0_charAt_5068e 24 = .ok (.ireturn, 1) := by decide +kernel
theorem dJ0_coder_7d493_0 : decode cJ0_coder_7d493 0 = .ok (.getstatic 38, 3) := by decide +kernel
theorem dJ0_coder_7d493_3 : decode cJ0_coder_7d493 3 = .ok (.ifCond .eq 10, 3) := by decide +kernel
theorem dJ0_coder_7d493_6 : decode cJ0_coder_7d493 6 = .ok (.aload_n 0, 1) := by decide +kernel
theorem dJ0_coder_7d493_7 : decode cJ0_coder_7d493 7 = .ok (.getfield 15, 3) := by decide +kernel
theorem dJ0_coder_7d493_10 : decode cJ0_coder_7d493 10 = .ok (.goto 4, 3) := by decide +kernel
theorem dJ0_coder_7d493_13 : decode cJ0_coder_7d493 13 = .ok (.iconst 1, 1) := by decide +kernel
theorem dJ0_coder_7d493_14 : decode cJ0_coder_7d493 14 = .ok (.ireturn, 1) := by decide +kernel
theorem dJ0_isLatin1_aae02_0 : decode cJ0_isLatin1_aae02 0 = .ok (.getstatic 38, 3) := by decide +kernel
theorem dJ0_isLatin1_aae02_3 : decode cJ0_isLatin1_aae02 3 = .ok (.ifCond .eq 14, 3) := by decide +kernel
theorem dJ0_isLatin1_aae02_6 : decode cJ0_isLatin1_aae02 6 = .ok (.aload_n 0, 1) := by decide +kernel
theorem dJ0_isLatin1_aae02_7 : decode cJ0_isLatin1_aae02 7 = .ok (.getfield 15, 3) := by decide +kernel
theorem dJ0_isLatin1_aae02_10 : decode cJ0_isLatin1_aae02 10 = .ok (.ifCond .ne 7, 3) := by decide +kernel
theorem dJ0_isLatin1_aae02_13 : decode cJ0_isLatin1_aae02 13 = .ok (.iconst 1, 1) := by decide +kernel
theorem dJ0_isLatin1_aae02_14 : decode cJ0_isLatin1_aae02 14 = .ok (.goto 4, 3) := by decide +kernel
theorem dJ0_isLatin1_aae02_17 : decode cJ0_isLatin1_aae02 17 = .ok (.iconst 0, 1) := by decide +kernel
theorem dJ0_isLatin1_aae02_18 : decode cJ0_isLatin1_aae02 18 = .ok (.ireturn, 1) := by decide +kernel
theorem dJ0_checkIndex_df160_0 : decode cJ0_checkIndex_df160 0 = .ok (.iload_n 0, 1) := by decide +kernel
theorem dJ0_checkIndex_df160_1 : decode cJ0_checkIndex_df160 1 = .ok (.iload_n 1, 1) := by decide +kernel
theorem dJ0_checkIndex_df160_2 : decode cJ0_checkIndex_df160 2 = .ok (.getstatic 1053, 3) := by decide +kernel
theorem dJ0_checkIndex_df160_5 : decode cJ0_checkIndex_df160 5 = .ok (.invokestatic 1059, 3) := by decide +kernel
theorem dJ0_checkIndex_df160_8 : decode cJ0_checkIndex_df160 8 = .ok (.pop, 1) := by decide +kernel
theorem dJ0_checkIndex_df160_9 : decode cJ0_checkIndex_df160 9 = .ok (.return_, 1) := by decide +kernel
theorem dJ1_charAt_3b067_0 : decode cJ1_charAt_3b067 0 = .ok (.iload_n 1, 1) := by decide +kernel
theorem dJ1_charAt_3b067_1 : decode cJ1_charAt_3b067 1 = .ok (.aload_n 0, 1) := by decide +kernel
theorem dJ1_charAt_3b067_2 : decode cJ1_charAt_3b067 2 = .ok (.arraylength, 1) := by decide +kernel
theorem dJ1_charAt_3b067_3 : decode cJ1_charAt_3b067 3 = .ok (.invokestatic 9, 3) := by decide +kernel
theorem dJ1_charAt_3b067_6 : decode cJ1_charAt_3b067 6 = .ok (.aload_n 0, 1) := by decide +kernel
theorem dJ1_charAt_3b067_7 : decode cJ1_charAt_3b067 7 = .ok (.iload_n 1, 1) := by decide +kernel
theorem dJ1_charAt_3b067_8 : decode cJ1_charAt_3b067 8 = .ok (.baload, 1) := by decide +kernel
theorem dJ1_charAt_3b067_9 : decode cJ1_charAt_3b067 9 = .ok (.sipush 255, 3) := by decide +kernel
theorem dJ1_charAt_3b067_12 : decode cJ1_charAt_3b067 12 = .ok (.iand, 1) := by decide +kernel
theorem dJ1_charAt_3b067_13 : decode cJ1_charAt_3b067 13 = .ok (.i2c, 1) := by decide +kernel
theorem dJ1_charAt_3b067_14 : decode cJ1_charAt_3b067 14 = .ok (.ireturn, 1) := by decide +kernel
theorem dJ2_getChar_3b067_0 : decode cJ2_getChar_3b067 0 = .ok (.getstatic 44, 3) := by decide +kernel
theorem dJ2_getChar_3b067_3 : decode cJ2_getChar_3b067 3 = .ok (.ifCond .ne 25, 3) := by decide +kernel
theorem dJ2_getChar_3b067_6 : decode cJ2_getChar_3b067 6 = .ok (.iload_n 1, 1) := by decide +kernel
theorem dJ2_getChar_3b067_7 : decode cJ2_getChar_3b067 7 = .ok (.ifCond .lt 11, 3) := by decide +kernel
theorem dJ2_getChar_3b067_10 : decode cJ2_getChar_3b067 10 = .ok (.iload_n 1, 1) := by decide +kernel
theorem dJ2_getChar_3b067_11 : decode cJ2_getChar_3b067 11 = .ok (.aload_n 0, 1) := by decide +kernel
theorem dJ2_getChar_3b067_12 : decode cJ2_getChar_3b067 12 = .ok (.invokestatic 48, 3) := by decide +kernel
theorem dJ2_getChar_3b067_15 : decode cJ2_getChar_3b067 15 = .ok (.if_icmp .lt 13, 3) := by decide +kernel
theorem dJ2_getChar_3b067_18 : decode cJ2_getChar_3b067 18 = .ok (.new 52, 3) := by decide +kernel
theorem dJ2_getChar_3b067_21 : decode cJ2_getChar_3b067 21 = .ok (.dup, 1) := by decide +kernel
theorem dJ2_getChar_3b067_22 : decode cJ2_getChar_3b067 22 = .ok (.ldc 54, 2) := by decide +kernel
theorem dJ2_getChar_3b067_24 : decode cJ2_getChar_3b067 24 = .ok (.invokespecial 56, 3) := by decide +kernel
theorem dJ2_getChar_3b067_27 : decode cJ2_getChar_3b067 27 = .ok (.athrow, 1) := by decide +kernel
theorem dJ2_getChar_3b067_28 : decode cJ2_getChar_3b067 28 = .ok (.iload_n 1, 1) := by decide +kernel
theorem dJ2_getChar_3b067_29 : decode cJ2_getChar_3b067 29 = .ok (.iconst 1, 1) := by decide +kernel
theorem dJ2_getChar_3b067_30 : decode cJ2_getChar_3b067 30 = .ok (.ishl, 1) := by decide +kernel
theorem dJ2_getChar_3b067_31 : decode cJ2_getChar_3b067 31 = .ok (.istore_n 1, 1) := by decide +kernel
theorem dJ2_getChar_3b067_32 : decode cJ2_getChar_3b067 32 = .ok (.aload_n 0, 1) := by decide +kernel
theorem dJ2_getChar_3b067_33 : decode cJ2_getChar_3b067 33 = .ok (.iload_n 1, 1) := by decide +kernel
theorem dJ2_getChar_3b067_34 : decode cJ2_getChar_3b067 34 = .ok (.iinc 1 1, 3) := by decide +kernel
theorem dJ2_getChar_3b067_37 : decode cJ2_getChar_3b067 37 = .ok (.baload, 1) := by decide +kernel
theorem dJ2_getChar_3b067_38 : decode cJ2_getChar_3b067 38 = .ok (.sipush 255, 3) := by decide +kernel
theorem dJ2_getChar_3b067_41 : decode cJ2_getChar_3b067 41 = .ok (.iand, 1) := by decide +kernel
theorem dJ2_getChar_3b067_42 : decode cJ2_getChar_3b067 42 = .ok (.getstatic 59, 3) := by decide +kernel
theorem dJ2_getChar_3b067_45 : decode cJ2_getChar_3b067 45 = .ok (.ishl, 1) := by decide +kernel
theorem dJ2_getChar_3b067_46 : decode cJ2_getChar_3b067 46 = .ok (.aload_n 0, 1) := by decide +kernel
theorem dJ2_getChar_3b067_47 : decode cJ2_getChar_3b067 47 = .ok (.iload_n 1, 1) := by decide +kernel
theorem dJ2_getChar_3b067_48 : decode cJ2_getChar_3b067 48 = .ok (.baload, 1) := by decide +kernel
theorem dJ2_getChar_3b067_49 : decode cJ2_getChar_3b067 49 = .ok (.sipush 255, 3) := by decide +kernel
theorem dJ2_getChar_3b067_52 : decode cJ2_getChar_3b067 52 = .ok (.iand, 1) := by decide +kernel
theorem dJ2_getChar_3b067_53 : decode cJ2_getChar_3b067 53 = .ok (.getstatic 63, 3) := by decide +kernel
theorem dJ2_getChar_3b067_56 : decode cJ2_getChar_3b067 56 = .ok (.ishl, 1) := by decide +kernel
theorem dJ2_getChar_3b067_57 : decode cJ2_getChar_3b067 57 = .ok (.ior, 1) := by decide +kernel
theorem dJ2_getChar_3b067_58 : decode cJ2_getChar_3b067 58 = .ok (.i2c, 1) := by decide +kernel
theorem dJ2_getChar_3b067_59 : decode cJ2_getChar_3b067 59 = .ok (.ireturn, 1) := by decide +kernel
theorem dJ2_length_9d52b_0 : decode cJ2_length_9d52b 0 = .ok (.aload_n 0, 1) := by decide +kernel
theorem dJ2_length_9d52b_1 : decode cJ2_length_9d52b 1 = .ok (.arraylength, 1) := by decide +kernel
theorem dJ2_length_9d52b_2 : decode cJ2_length_9d52b 2 = .ok (.iconst 1, 1) := by decide +kernel
theorem dJ2_length_9d52b_3 : decode cJ2_length_9d52b 3 = .ok (.ishr, 1) := by decide +kernel
theorem dJ2_length_9d52b_4 : decode cJ2_length_9d52b 4 = .ok (.ireturn, 1) := by decide +kernel
theorem dJ2_charAt_3b067_0 : decode cJ2_charAt_3b067 0 = .ok (.iload_n 1, 1) := by decide +kernel
theorem dJ2_charAt_3b067_1 : decode cJ2_charAt_3b067 1 = .ok (.aload_n 0, 1) := by decide +kernel
theorem dJ2_charAt_3b067_2 : decode cJ2_charAt_3b067 2 = .ok (.invokestatic 67, 3) := by decide +kernel
theorem dJ2_charAt_3b067_5 : decode cJ2_charAt_3b067 5 = .ok (.aload_n 0, 1) := by decide +kernel
theorem dJ2_charAt_3b067_6 : decode cJ2_charAt_3b067 6 = .ok (.iload_n 1, 1) := by decide +kernel
theorem dJ2_charAt_3b067_7 : decode cJ2_charAt_3b067 7 = .ok (.invokestatic 71, 3) := by decide +kernel
theorem dJ2_charAt_3b067_10 : decode cJ2_charAt_3b067 10 = .ok (.ireturn, 1) := by decide +kernel
theorem dJ2_checkIndex_2214a_0 : decode cJ2_checkIndex_2214a 0 = .ok (.iload_n 0, 1) := by decide +kernel
theorem dJ2_checkIndex_2214a_1 : decode cJ2_checkIndex_2214a 1 = .ok (.aload_n 1, 1) := by decide +kernel
theorem dJ2_checkIndex_2214a_2 : decode cJ2_checkIndex_2214a 2 = .ok (.invokestatic 48, 3) := by decide +kernel
theorem dJ2_checkIndex_2214a_5 : decode cJ2_checkIndex_2214a 5 = .ok (.invokestatic 414, 3) := by decide +kernel
theorem dJ2_checkIndex_2214a_8 : decode cJ2_checkIndex_2214a 8 = .ok (.return_, 1) := by decide +kernel
theorem dJ3_checkIndex_8e157_0 : decode cJ3_checkIndex_8e157 0 = .ok (.iload_n 0, 1) := by decide +kernel
theorem dJ3_checkIndex_8e157_1 : decode cJ3_checkIndex_8e157 1 = .ok (.ifCond .lt 8, 3) := by decide +kernel
theorem dJ3_checkIndex_8e157_4 : decode cJ3_checkIndex_8e157 4 = .ok (.iload_n 0, 1) := by decide +kernel
theorem dJ3_checkIndex_8e157_5 : decode cJ3_checkIndex_8e157 5 = .ok (.iload_n 1, 1) := by decide +kernel
theorem dJ3_checkIndex_8e157_6 : decode cJ3_checkIndex_8e157 6 = .ok (.if_icmp .lt 10, 3) := by decide +kernel
theorem dJ3_checkIndex_8e157_9 : decode cJ3_checkIndex_8e157 9 = .ok (.aload_n 2, 1) := by decide +kernel
theorem dJ3_checkIndex_8e157_10 : decode cJ3_checkIndex_8e157 10 = .ok (.iload_n 0, 1) := by decide +kernel
theorem dJ3_checkIndex_8e157_11 : decode cJ3_checkIndex_8e157 11 = .ok (.iload_n 1, 1) := by decide +kernel
theorem dJ3_checkIndex_8e157_12 : decode cJ3_checkIndex_8e157 12 = .ok (.invokestatic 95, 3) := by decide +kernel
theorem dJ3_checkIndex_8e157_15 : decode cJ3_checkIndex_8e157 15 = .ok (.athrow, 1) := by decide +kernel
theorem dJ3_checkIndex_8e157_16 : decode cJ3_checkIndex_8e157 16 = .ok (.iload_n 0, 1) := by decide +kernel
theorem dJ3_checkIndex_8e157_17 : decode cJ3_checkIndex_8e157 17 = .ok (.ireturn, 1) := by decide +kernel
